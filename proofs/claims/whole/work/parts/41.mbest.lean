/-! THE MODEL: run, when, dig, blade (wip/whole/gen41.py) -/
theorem lt_max {x : Int32} (h : x.toInt ≤ 1000000) : x < 2147483647 := by
  rw [Int32.lt_iff_toInt_lt]
  have k : (2147483647 : Int32).toInt = 2147483647 := rfl
  omega
theorem WB.mb {n : Nat} {R : tR} (h : WB n R) : MB n R := fun j hj => ⟨(h.1 j hj).2.2.2.2.1, (h.1 j hj).2.2.2.2.2⟩
theorem WB.bay {n : Nat} {R : tR} (h : WB n R) : ∀ j, j < n → 0 ≤ R 4 j := fun j hj => by
  rw [Int32.le_iff_toInt_le]
  exact (h.1 j hj).2.2.1
theorem close_row {c : Nat} {Y Y1 : tR} {S S1 : Nat → Int32} (h : FRc (fun a k => a = 2 ∧ k = c) Y S Y1 S1) : FRq Y S (u2 Y1 2 c (Y 2 c)) S1 := by
  refine (h.u (a := 2) (k := c) (v := Y 2 c) ⟨rfl, rfl⟩ (by decide)).close (fun k _ q => absurd q.1 (by decide)) (fun k _ q => absurd q.1 (by decide)) (fun k _ q => ?_) (fun k _ q => absurd q.1 (by decide)) (fun k _ q => absurd q.1 (by decide)) (fun k q => absurd q.1 (by decide))
  rw [q.2, u2_ap, if_pos ⟨rfl, rfl⟩]
theorem close_0 {c : Nat} {Y Y1 : tR} {S S1 : Nat → Int32} (h : FRc (fun a k => a = 0 ∧ k = c) Y S Y1 S1) : FRq Y S (u2 Y1 0 c (Y 0 c)) S1 := by
  refine (h.u (a := 0) (k := c) (v := Y 0 c) ⟨rfl, rfl⟩ (by decide)).close (fun k _ q => ?_) (fun k _ q => absurd q.1 (by decide)) (fun k _ q => absurd q.1 (by decide)) (fun k _ q => absurd q.1 (by decide)) (fun k _ q => absurd q.1 (by decide)) (fun k q => absurd q.1 (by decide))
  rw [q.2, u2_ap, if_pos ⟨rfl, rfl⟩]
theorem close_01 {c : Nat} {Y Y1 : tR} {S S1 : Nat → Int32} (h : FRc (fun a k => (a = 0 ∨ a = 1) ∧ k = c) Y S Y1 S1) : FRq Y S (u2 (u2 Y1 0 c (Y 0 c)) 1 c (Y 1 c)) S1 := by
  refine ((h.u (a := 0) (k := c) (v := Y 0 c) ⟨Or.inl rfl, rfl⟩ (by decide)).u (a := 1) (k := c) (v := Y 1 c) ⟨Or.inr rfl, rfl⟩ (by decide)).close (fun k _ q => ?_) (fun k _ q => ?_) (fun k _ q => absurd q.1 (by decide)) (fun k _ q => absurd q.1 (by decide)) (fun k _ q => absurd q.1 (by decide)) (fun k q => absurd q.1 (by decide))
  · rw [q.2, u2_ap, if_neg (by omega), u2_ap, if_pos ⟨rfl, rfl⟩]
  · rw [q.2, u2_ap, if_pos ⟨rfl, rfl⟩]
theorem close_012 {c e : Nat} {Y Y1 : tR} {S S1 : Nat → Int32} (h : FRc (fun a k => ((a = 0 ∨ a = 1) ∧ k = c) ∨ (a = 2 ∧ k = e)) Y S Y1 S1) : FRq Y S (u2 (u2 (u2 Y1 0 c (Y 0 c)) 1 c (Y 1 c)) 2 e (Y 2 e)) S1 := by
  refine (((h.u (a := 0) (k := c) (v := Y 0 c) (Or.inl ⟨Or.inl rfl, rfl⟩) (by decide)).u (a := 1) (k := c) (v := Y 1 c) (Or.inl ⟨Or.inr rfl, rfl⟩) (by decide)).u (a := 2) (k := e) (v := Y 2 e) (Or.inr ⟨rfl, rfl⟩) (by decide)).close (fun k _ q => ?_) (fun k _ q => ?_) (fun k _ q => ?_) (fun k _ q => by omega) (fun k _ q => by omega) (fun k q => by omega)
  · rw [show k = c by omega, u2_ap, if_neg (by omega), u2_ap, if_neg (by omega), u2_ap, if_pos ⟨rfl, rfl⟩]
  · rw [show k = c by omega, u2_ap, if_neg (by omega), u2_ap, if_pos ⟨rfl, rfl⟩]
  · rw [show k = e by omega, u2_ap, if_pos ⟨rfl, rfl⟩]
/-- a row's number set over one laid back -/
theorem set_row {Y : tR} {S : Nat → Int32} {R Lr : tR} {z : Nat → Nat} {n p t j : Nat} {w v : Int32} (hms : MS (u2 Y 2 (5 * j + 3) w) S R Lr z n p t) : MS (u2 Y 2 (5 * j + 3) v) S (chg R j 3 v) Lr z n p t := by
  have e := hms.set (Y1 := u2 (u2 Y 2 (5 * j + 3) w) 2 (5 * j + 3) v) (S1 := S) (R' := chg R j 3 v) (mes_r3 (A := fun _ => R) (r := 0) hms.1 rfl) rfl rfl rfl (lm_u (by decide)) hms.2.2.2.2.2.2.2.2.2
  rw [u2_u2] at e
  exact e
theorem set_bay {Y : tR} {S : Nat → Int32} {R Lr : tR} {z : Nat → Nat} {n p t j : Nat} {w v : Int32} (hv : 0 ≤ v) (hms : MS (u2 Y 2 (5 * j + 2) w) S R Lr z n p t) : MS (u2 Y 2 (5 * j + 2) v) S (chg R j 2 v) Lr z n p t := by
  have e := hms.set (Y1 := u2 (u2 Y 2 (5 * j + 2) w) 2 (5 * j + 2) v) (S1 := S) (R' := chg R j 2 v) (mes_r2 (A := fun _ => R) (r := 0) hms.1 rfl) rfl rfl rfl (lm_u (by decide)) (fun i hi => by
    show 0 ≤ u3 (fun _ => R) 0 4 j v 0 4 i
    rw [u3_ap]
    split
    · exact hv
    · exact hms.2.2.2.2.2.2.2.2.2 i hi)
  rw [u2_u2] at e
  exact e
theorem set_lift {Y : tR} {S : Nat → Int32} {R Lr : tR} {z : Nat → Nat} {n p t j : Nat} {v : Int32} (hms : MS Y S R Lr z n p t) : MS (u2 Y 2 (5 * j + 4) v) S (chg R j 4 v) Lr z n p t :=
  hms.set (R' := chg R j 4 v) (mes_r4 (A := fun _ => R) (r := 0) hms.1 rfl) rfl rfl rfl (lm_u (by decide)) hms.2.2.2.2.2.2.2.2.2
theorem chg_1 (R : tR) (j : Nat) {w : Int32} (v : Int32) (b : Nat) (h : w = 2 ∨ w = 3 ∨ w = 4 ∨ w = 5) : chg R j w v 1 b = R 1 b := by
  rcases h with rfl | rfl | rfl | rfl
  · show u3 (fun _ => R) 0 4 j v 0 1 b = _; rw [u3_ap, if_neg (by omega)]
  · show u3 (fun _ => R) 0 5 j v 0 1 b = _; rw [u3_ap, if_neg (by omega)]
  · show u3 (fun _ => R) 0 6 j v 0 1 b = _; rw [u3_ap, if_neg (by omega)]
  · show u3 (fun _ => R) 0 0 j v 0 1 b = _; rw [u3_ap, if_neg (by omega)]
theorem chg_mb {R : tR} {n j : Nat} {w v : Int32} (hW : WB n R) (h : w = 2 ∨ w = 3 ∨ w = 4 ∨ w = 5) : MB n (chg R j w v) := fun i hi => by rw [chg_1 R j v i h]; exact hW.mb i hi
theorem whF_lt {R Lr : tR} {z : Nat → Nat} {n p m j : Nat} {gw : Int32} {i : Nat} (hW : WB n R) (hm : m ≤ 48) (hj : j < n) : whF R Lr z n p m j gw i < 2147483647 := by
  have t := gon_tb (Lr := Lr) (z := z) (p := p) (chg_mb (j := j) (w := 3) (v := nI i) hW (by decide)) hm j hj
  unfold whF
  split
  · exact lt_max (by omega)
  · exact lt_max (by omega)
theorem q_185 {d : Nat} {M : mM} {v : Int32} (hd : 1 ≤ d) : Ex d 185 [.int v] M (some (.int (bI (decide ((0 ≤ v ∧ v ≤ 11) ∧ i_mod v 10 ≤ 1))))) M := by
  refine Ex.of ?_
  show Wp _ 185 0 [.int v] [] _ _
  refine W_iload_n d_185_0 rfl ?_
  refine W_iconst d_185_1 (v := 0) (by decide) ?_
  refine W_bipush d_185_2 (v := 11) (by decide) ?_
  refine W_callS d_185_4 o_185 k_7_96 (by omega) x_135 rfl (Nat.le_of_ble_eq_true rfl) ?_
  refine W_if_eq (tgt := 22) d_185_7 (by decide) (fun h7 => ?_) (fun h7 => ?_)
  · refine W_iconst d_185_22 (v := 0) (by decide) ?_
    refine W_iret d_185_23 rt_185 rfl ?_
    exact ⟨congrArg (fun z => some (Value.int z)) (bI_0 (fun q => bI_f h7 q.1)), rfl⟩
  · refine W_iload_n d_185_10 rfl ?_
    refine W_bipush d_185_11 (v := 10) (by decide) ?_
    refine W_irem d_185_13 (by decide) ?_
    refine W_iconst d_185_14 (v := 2) (by decide) ?_
    refine W_icmp_ge (tgt := 22) d_185_15 (by decide) (fun h15 => ?_) (fun h15 => ?_)
    · refine W_iconst d_185_22 (v := 0) (by decide) ?_
      refine W_iret d_185_23 rt_185 rfl ?_
      exact ⟨congrArg (fun z => some (Value.int z)) (bI_0 (fun q => absurd (isgoal_iff.mp q.2) (Int32.not_lt.mpr h15))), rfl⟩
    · refine W_iconst d_185_18 (v := 1) (by decide) ?_
      refine W_goto (tgt := 23) d_185_19 (by decide) ?_
      refine W_iret d_185_23 rt_185 rfl ?_
      exact ⟨congrArg (fun z => some (Value.int z)) (bI_1 ⟨bI_t h7, isgoal_iff.mpr (Int32.not_le.mp h15)⟩), rfl⟩
theorem q_184 {d : Nat} {g : mG} {N : Nat} {P : Nat → mC} {Y : tR} {S : Nat → Int32} {R Lr : tR} {z : Nat → Nat} {n p t : Nat} (hX : MS Y S R Lr z n p t) (hW : WB n R) {m : Nat} (hm : m ≤ 48) {w : Int32} (hw : 0 ≤ w ∧ w ≤ 4) (hd : 9 ≤ d) : Wp d 184 0 (ment 184 [.ref 92, .int (nI m), .int w]) [] (N, H3 g P (mm Y S)) (fun v M' => v = some (.int (ans_ (gon R Lr z n p m) n w)) ∧ ∃ Y' S', M' = (N, H3 g P (mm Y' S')) ∧ FRq Y S Y' S') := by
  have hn12 := hX.2.2.1
  have hp6 := hX.2.2.2.2.1
  have hS0 := hX.n0
  have hS5 := hX.p0
  show Wp _ 184 0 [.ref 92, .int (nI m), .int w] [] _ _
  refine W_iload_n d_184_0 rfl ?_
  refine W_callS d_184_1 o_184 k_7_244 (by omega) (x_139 (by omega)) rfl (Nat.le_of_ble_eq_true rfl) ?_
  refine W_if_ne (tgt := 10) d_184_4 (by decide) (fun h4 => ?_) (fun h4 => absurd h4 (fun q => bI_f q ⟨nI_pos' (by omega), nI_le (a := m) (b := 48) hm (by decide)⟩))
  refine W_iload_n d_184_10 rfl ?_
  refine W_iconst d_184_11 (v := 0) (by decide) ?_
  refine W_iconst d_184_12 (v := 4) (by decide) ?_
  refine W_callS d_184_13 o_184 k_7_96 (by omega) x_135 rfl (Nat.le_of_ble_eq_true rfl) ?_
  refine W_if_ne (tgt := 70) d_184_16 (by decide) (fun h16 => ?_) (fun h16 => absurd h16 (fun q => bI_f q hw))
  refine W_aload_n d_184_70 rfl (by decide) ?_
  refine W_iload_n d_184_71 rfl ?_
  refine W_callVQ d_184_72 o_184 (Or.inl k_7_247) (by omega) (x_181 hX (m := m) (by omega) (by omega)) rfl (mrecv_of rfl o_181.symm) rfl (Nat.le_of_ble_eq_true rfl) ?_
  rintro _ _ ⟨rfl, Y1, S1, rfl, hF1, hG1⟩
  refine W_aload_n d_184_75 rfl (by decide) ?_
  refine W_iload_n d_184_76 rfl ?_
  refine W_callV d_184_77 o_184 (Or.inl k_7_250) (by omega) (x_183 (X := gon R Lr z n p m) (hF1.2.1 0 (by decide) ▸ hS0) hn12 hG1 hw (by omega)) rfl (mrecv_of rfl o_183.symm) rfl (Nat.le_of_ble_eq_true rfl) ?_
  refine W_iret d_184_80 rt_184 rfl ?_
  exact ⟨rfl, _, _, rfl, hF1.c⟩
theorem q_184a {d : Nat} {g : mG} {N : Nat} {P : Nat → mC} {Y : tR} {S : Nat → Int32} {R Lr : tR} {z : Nat → Nat} {n p t : Nat} (hX : MS Y S R Lr z n p t) (hW : WB n R) {m : Nat} (hm : m ≤ 48) {j : Nat} (hj : j < n) (hd : 9 ≤ d) : Wp d 184 0 (ment 184 [.ref 92, .int (nI m), .int (nI (10 + j))]) [] (N, H3 g P (mm Y S)) (fun v M' => v = some (.int (gon R Lr z n p m 7 j)) ∧ ∃ Y' S', M' = (N, H3 g P (mm Y' S')) ∧ FRq Y S Y' S') := by
  have hn12 := hX.2.2.1
  have hp6 := hX.2.2.2.2.1
  have hS0 := hX.n0
  have hS5 := hX.p0
  show Wp _ 184 0 [.ref 92, .int (nI m), .int (nI (10 + j))] [] _ _
  refine W_iload_n d_184_0 rfl ?_
  refine W_callS d_184_1 o_184 k_7_244 (by omega) (x_139 (by omega)) rfl (Nat.le_of_ble_eq_true rfl) ?_
  refine W_if_ne (tgt := 10) d_184_4 (by decide) (fun h4 => ?_) (fun h4 => absurd h4 (fun q => bI_f q ⟨nI_pos' (by omega), nI_le (a := m) (b := 48) hm (by decide)⟩))
  refine W_iload_n d_184_10 rfl ?_
  refine W_iconst d_184_11 (v := 0) (by decide) ?_
  refine W_iconst d_184_12 (v := 4) (by decide) ?_
  refine W_callS d_184_13 o_184 k_7_96 (by omega) x_135 rfl (Nat.le_of_ble_eq_true rfl) ?_
  refine W_if_ne (tgt := 70) d_184_16 (by decide) (fun h16 => absurd (bI_ne.mpr (fun q => absurd q.2 (nI_ge (a := 4) (b := 10 + j) (by omega) (by omega)))) h16) (fun h16 => ?_)
  refine W_iload_n d_184_19 rfl ?_
  refine W_bipush d_184_20 (v := 10) (by decide) ?_
  refine W_bipush d_184_22 (v := 9) (by decide) ?_
  refine W_aload_n d_184_24 rfl (by decide) ?_
  refine W_getf d_184_25 o_184 k_7_93 rfl rfl ?_
  rw [hS0]
  refine W_iadd d_184_28 ?_
  rw [show ((9 + nI n : Int32)) = nI (9 + n) from nI_add 9 n]
  refine W_callS d_184_29 o_184 k_7_96 (by omega) x_135 rfl (Nat.le_of_ble_eq_true rfl) ?_
  refine W_if_ne (tgt := 70) d_184_32 (by decide) (fun h32 => ?_) (fun h32 => absurd h32 (fun q => bI_f q ⟨nI_le (a := 10) (b := 10 + j) (by omega) (by omega), nI_le (a := 10 + j) (b := 9 + n) (by omega) (by omega)⟩))
  refine W_aload_n d_184_70 rfl (by decide) ?_
  refine W_iload_n d_184_71 rfl ?_
  refine W_callVQ d_184_72 o_184 (Or.inl k_7_247) (by omega) (x_181 hX (m := m) (by omega) (by omega)) rfl (mrecv_of rfl o_181.symm) rfl (Nat.le_of_ble_eq_true rfl) ?_
  rintro _ _ ⟨rfl, Y1, S1, rfl, hF1, hG1⟩
  refine W_aload_n d_184_75 rfl (by decide) ?_
  refine W_iload_n d_184_76 rfl ?_
  refine W_callV d_184_77 o_184 (Or.inl k_7_250) (by omega) (x_183a (X := gon R Lr z n p m) (hF1.2.1 0 (by decide) ▸ hS0) hn12 hG1 hj) rfl (mrecv_of rfl o_183.symm) rfl (Nat.le_of_ble_eq_true rfl) ?_
  refine W_iret d_184_80 rt_184 rfl ?_
  exact ⟨rfl, _, _, rfl, hF1.c⟩
theorem q_184b {d : Nat} {g : mG} {N : Nat} {P : Nat → mC} {Y : tR} {S : Nat → Int32} {R Lr : tR} {z : Nat → Nat} {n p t : Nat} (hX : MS Y S R Lr z n p t) (hW : WB n R) {m : Nat} (hm : m ≤ 48) {j : Nat} (hj : j < n) (hd : 9 ≤ d) : Wp d 184 0 (ment 184 [.ref 92, .int (nI m), .int (nI (30 + j))]) [] (N, H3 g P (mm Y S)) (fun v M' => v = some (.int (gon R Lr z n p m 8 j)) ∧ ∃ Y' S', M' = (N, H3 g P (mm Y' S')) ∧ FRq Y S Y' S') := by
  have hn12 := hX.2.2.1
  have hp6 := hX.2.2.2.2.1
  have hS0 := hX.n0
  have hS5 := hX.p0
  show Wp _ 184 0 [.ref 92, .int (nI m), .int (nI (30 + j))] [] _ _
  refine W_iload_n d_184_0 rfl ?_
  refine W_callS d_184_1 o_184 k_7_244 (by omega) (x_139 (by omega)) rfl (Nat.le_of_ble_eq_true rfl) ?_
  refine W_if_ne (tgt := 10) d_184_4 (by decide) (fun h4 => ?_) (fun h4 => absurd h4 (fun q => bI_f q ⟨nI_pos' (by omega), nI_le (a := m) (b := 48) hm (by decide)⟩))
  refine W_iload_n d_184_10 rfl ?_
  refine W_iconst d_184_11 (v := 0) (by decide) ?_
  refine W_iconst d_184_12 (v := 4) (by decide) ?_
  refine W_callS d_184_13 o_184 k_7_96 (by omega) x_135 rfl (Nat.le_of_ble_eq_true rfl) ?_
  refine W_if_ne (tgt := 70) d_184_16 (by decide) (fun h16 => absurd (bI_ne.mpr (fun q => absurd q.2 (nI_ge (a := 4) (b := 30 + j) (by omega) (by omega)))) h16) (fun h16 => ?_)
  refine W_iload_n d_184_19 rfl ?_
  refine W_bipush d_184_20 (v := 10) (by decide) ?_
  refine W_bipush d_184_22 (v := 9) (by decide) ?_
  refine W_aload_n d_184_24 rfl (by decide) ?_
  refine W_getf d_184_25 o_184 k_7_93 rfl rfl ?_
  rw [hS0]
  refine W_iadd d_184_28 ?_
  rw [show ((9 + nI n : Int32)) = nI (9 + n) from nI_add 9 n]
  refine W_callS d_184_29 o_184 k_7_96 (by omega) x_135 rfl (Nat.le_of_ble_eq_true rfl) ?_
  refine W_if_ne (tgt := 70) d_184_32 (by decide) (fun h32 => absurd (bI_ne.mpr (fun q => absurd q.2 (nI_ge (a := 9 + n) (b := 30 + j) (by omega) (by omega)))) h32) (fun h32 => ?_)
  refine W_iload_n d_184_35 rfl ?_
  refine W_bipush d_184_36 (v := 30) (by decide) ?_
  refine W_bipush d_184_38 (v := 29) (by decide) ?_
  refine W_aload_n d_184_40 rfl (by decide) ?_
  refine W_getf d_184_41 o_184 k_7_93 rfl rfl ?_
  rw [hS0]
  refine W_iadd d_184_44 ?_
  rw [show ((29 + nI n : Int32)) = nI (29 + n) from nI_add 29 n]
  refine W_callS d_184_45 o_184 k_7_96 (by omega) x_135 rfl (Nat.le_of_ble_eq_true rfl) ?_
  refine W_if_ne (tgt := 70) d_184_48 (by decide) (fun h48 => ?_) (fun h48 => absurd h48 (fun q => bI_f q ⟨nI_le (a := 30) (b := 30 + j) (by omega) (by omega), nI_le (a := 30 + j) (b := 29 + n) (by omega) (by omega)⟩))
  refine W_aload_n d_184_70 rfl (by decide) ?_
  refine W_iload_n d_184_71 rfl ?_
  refine W_callVQ d_184_72 o_184 (Or.inl k_7_247) (by omega) (x_181 hX (m := m) (by omega) (by omega)) rfl (mrecv_of rfl o_181.symm) rfl (Nat.le_of_ble_eq_true rfl) ?_
  rintro _ _ ⟨rfl, Y1, S1, rfl, hF1, hG1⟩
  refine W_aload_n d_184_75 rfl (by decide) ?_
  refine W_iload_n d_184_76 rfl ?_
  refine W_callV d_184_77 o_184 (Or.inl k_7_250) (by omega) (x_183b (X := gon R Lr z n p m) (hF1.2.1 0 (by decide) ▸ hS0) hn12 hG1 hj) rfl (mrecv_of rfl o_183.symm) rfl (Nat.le_of_ble_eq_true rfl) ?_
  refine W_iret d_184_80 rt_184 rfl ?_
  exact ⟨rfl, _, _, rfl, hF1.c⟩
theorem q_184c {d : Nat} {g : mG} {N : Nat} {P : Nat → mC} {Y : tR} {S : Nat → Int32} {R Lr : tR} {z : Nat → Nat} {n p t : Nat} (hX : MS Y S R Lr z n p t) (hW : WB n R) {m : Nat} (hm : m ≤ 48) {j : Nat} (hj : j < n) (hd : 9 ≤ d) : Wp d 184 0 (ment 184 [.ref 92, .int (nI m), .int (nI (50 + j))]) [] (N, H3 g P (mm Y S)) (fun v M' => v = some (.int (gon R Lr z n p m 2 j)) ∧ ∃ Y' S', M' = (N, H3 g P (mm Y' S')) ∧ FRq Y S Y' S') := by
  have hn12 := hX.2.2.1
  have hp6 := hX.2.2.2.2.1
  have hS0 := hX.n0
  have hS5 := hX.p0
  show Wp _ 184 0 [.ref 92, .int (nI m), .int (nI (50 + j))] [] _ _
  refine W_iload_n d_184_0 rfl ?_
  refine W_callS d_184_1 o_184 k_7_244 (by omega) (x_139 (by omega)) rfl (Nat.le_of_ble_eq_true rfl) ?_
  refine W_if_ne (tgt := 10) d_184_4 (by decide) (fun h4 => ?_) (fun h4 => absurd h4 (fun q => bI_f q ⟨nI_pos' (by omega), nI_le (a := m) (b := 48) hm (by decide)⟩))
  refine W_iload_n d_184_10 rfl ?_
  refine W_iconst d_184_11 (v := 0) (by decide) ?_
  refine W_iconst d_184_12 (v := 4) (by decide) ?_
  refine W_callS d_184_13 o_184 k_7_96 (by omega) x_135 rfl (Nat.le_of_ble_eq_true rfl) ?_
  refine W_if_ne (tgt := 70) d_184_16 (by decide) (fun h16 => absurd (bI_ne.mpr (fun q => absurd q.2 (nI_ge (a := 4) (b := 50 + j) (by omega) (by omega)))) h16) (fun h16 => ?_)
  refine W_iload_n d_184_19 rfl ?_
  refine W_bipush d_184_20 (v := 10) (by decide) ?_
  refine W_bipush d_184_22 (v := 9) (by decide) ?_
  refine W_aload_n d_184_24 rfl (by decide) ?_
  refine W_getf d_184_25 o_184 k_7_93 rfl rfl ?_
  rw [hS0]
  refine W_iadd d_184_28 ?_
  rw [show ((9 + nI n : Int32)) = nI (9 + n) from nI_add 9 n]
  refine W_callS d_184_29 o_184 k_7_96 (by omega) x_135 rfl (Nat.le_of_ble_eq_true rfl) ?_
  refine W_if_ne (tgt := 70) d_184_32 (by decide) (fun h32 => absurd (bI_ne.mpr (fun q => absurd q.2 (nI_ge (a := 9 + n) (b := 50 + j) (by omega) (by omega)))) h32) (fun h32 => ?_)
  refine W_iload_n d_184_35 rfl ?_
  refine W_bipush d_184_36 (v := 30) (by decide) ?_
  refine W_bipush d_184_38 (v := 29) (by decide) ?_
  refine W_aload_n d_184_40 rfl (by decide) ?_
  refine W_getf d_184_41 o_184 k_7_93 rfl rfl ?_
  rw [hS0]
  refine W_iadd d_184_44 ?_
  rw [show ((29 + nI n : Int32)) = nI (29 + n) from nI_add 29 n]
  refine W_callS d_184_45 o_184 k_7_96 (by omega) x_135 rfl (Nat.le_of_ble_eq_true rfl) ?_
  refine W_if_ne (tgt := 70) d_184_48 (by decide) (fun h48 => absurd (bI_ne.mpr (fun q => absurd q.2 (nI_ge (a := 29 + n) (b := 50 + j) (by omega) (by omega)))) h48) (fun h48 => ?_)
  refine W_iload_n d_184_51 rfl ?_
  refine W_bipush d_184_52 (v := 50) (by decide) ?_
  refine W_bipush d_184_54 (v := 49) (by decide) ?_
  refine W_aload_n d_184_56 rfl (by decide) ?_
  refine W_getf d_184_57 o_184 k_7_93 rfl rfl ?_
  rw [hS0]
  refine W_iadd d_184_60 ?_
  rw [show ((49 + nI n : Int32)) = nI (49 + n) from nI_add 49 n]
  refine W_callS d_184_61 o_184 k_7_96 (by omega) x_135 rfl (Nat.le_of_ble_eq_true rfl) ?_
  refine W_if_ne (tgt := 70) d_184_64 (by decide) (fun h64 => ?_) (fun h64 => absurd h64 (fun q => bI_f q ⟨nI_le (a := 50) (b := 50 + j) (by omega) (by omega), nI_le (a := 50 + j) (b := 49 + n) (by omega) (by omega)⟩))
  refine W_aload_n d_184_70 rfl (by decide) ?_
  refine W_iload_n d_184_71 rfl ?_
  refine W_callVQ d_184_72 o_184 (Or.inl k_7_247) (by omega) (x_181 hX (m := m) (by omega) (by omega)) rfl (mrecv_of rfl o_181.symm) rfl (Nat.le_of_ble_eq_true rfl) ?_
  rintro _ _ ⟨rfl, Y1, S1, rfl, hF1, hG1⟩
  refine W_aload_n d_184_75 rfl (by decide) ?_
  refine W_iload_n d_184_76 rfl ?_
  refine W_callV d_184_77 o_184 (Or.inl k_7_250) (by omega) (x_183c (X := gon R Lr z n p m) (hF1.2.1 0 (by decide) ▸ hS0) hn12 hG1 hj) rfl (mrecv_of rfl o_183.symm) rfl (Nat.le_of_ble_eq_true rfl) ?_
  refine W_iret d_184_80 rt_184 rfl ?_
  exact ⟨rfl, _, _, rfl, hF1.c⟩
theorem q_184r {d : Nat} {g : mG} {N : Nat} {P : Nat → mC} {Y : tR} {S : Nat → Int32} {R Lr : tR} {z : Nat → Nat} {n p t : Nat} (hX : MS Y S R Lr z n p t) (hW : WB n R) {v w : Int32} (hv : ¬ (0 ≤ v ∧ v ≤ 48)) (hd : 3 ≤ d) : Ex d 184 [.ref 92, .int v, .int w] (N, H3 g P (mm Y S)) (some (.int (-2))) (N, H3 g P (mm Y S)) := by
  have hn12 := hX.2.2.1
  have hp6 := hX.2.2.2.2.1
  have hS0 := hX.n0
  have hS5 := hX.p0
  refine Ex.of ?_
  show Wp _ 184 0 [.ref 92, .int v, .int w] [] _ _
  refine W_iload_n d_184_0 rfl ?_
  refine W_callS d_184_1 o_184 k_7_244 (by omega) (x_139 (by omega)) rfl (Nat.le_of_ble_eq_true rfl) ?_
  refine W_if_ne (tgt := 10) d_184_4 (by decide) (fun h4 => absurd (bI_ne.mpr hv) h4) (fun h4 => ?_)
  refine W_bipush d_184_7 (v := (-2)) (by decide) ?_
  refine W_iret d_184_9 rt_184 rfl ?_
  exact ⟨rfl, rfl⟩
theorem q_184w {d : Nat} {g : mG} {N : Nat} {P : Nat → mC} {Y : tR} {S : Nat → Int32} {R Lr : tR} {z : Nat → Nat} {n p t : Nat} (hX : MS Y S R Lr z n p t) (hW : WB n R) {m : Nat} (hm : m ≤ 48) {w : Int32} (hw : ¬ (0 ≤ w ∧ w ≤ 4)) (h1 : ¬ (10 ≤ w ∧ w ≤ nI (9 + n))) (h2 : ¬ (30 ≤ w ∧ w ≤ nI (29 + n))) (h3 : ¬ (50 ≤ w ∧ w ≤ nI (49 + n))) (hd : 3 ≤ d) : Ex d 184 [.ref 92, .int (nI m), .int w] (N, H3 g P (mm Y S)) (some (.int (-7))) (N, H3 g P (mm Y S)) := by
  have hn12 := hX.2.2.1
  have hp6 := hX.2.2.2.2.1
  have hS0 := hX.n0
  have hS5 := hX.p0
  refine Ex.of ?_
  show Wp _ 184 0 [.ref 92, .int (nI m), .int w] [] _ _
  refine W_iload_n d_184_0 rfl ?_
  refine W_callS d_184_1 o_184 k_7_244 (by omega) (x_139 (by omega)) rfl (Nat.le_of_ble_eq_true rfl) ?_
  refine W_if_ne (tgt := 10) d_184_4 (by decide) (fun h4 => ?_) (fun h4 => absurd h4 (fun q => bI_f q ⟨nI_pos' (by omega), nI_le (a := m) (b := 48) hm (by decide)⟩))
  refine W_iload_n d_184_10 rfl ?_
  refine W_iconst d_184_11 (v := 0) (by decide) ?_
  refine W_iconst d_184_12 (v := 4) (by decide) ?_
  refine W_callS d_184_13 o_184 k_7_96 (by omega) x_135 rfl (Nat.le_of_ble_eq_true rfl) ?_
  refine W_if_ne (tgt := 70) d_184_16 (by decide) (fun h16 => ?_) (fun h16 => ?_)
  · first | exact (hw (bI_t h16)).elim | exact (h1 (bI_t h32)).elim | exact (h2 (bI_t h48)).elim | exact (h3 (bI_t h64)).elim
  · refine W_iload_n d_184_19 rfl ?_
    refine W_bipush d_184_20 (v := 10) (by decide) ?_
    refine W_bipush d_184_22 (v := 9) (by decide) ?_
    refine W_aload_n d_184_24 rfl (by decide) ?_
    refine W_getf d_184_25 o_184 k_7_93 rfl rfl ?_
    rw [hS0]
    refine W_iadd d_184_28 ?_
    rw [show ((9 + nI n : Int32)) = nI (9 + n) from nI_add 9 n]
    refine W_callS d_184_29 o_184 k_7_96 (by omega) x_135 rfl (Nat.le_of_ble_eq_true rfl) ?_
    refine W_if_ne (tgt := 70) d_184_32 (by decide) (fun h32 => ?_) (fun h32 => ?_)
    · first | exact (hw (bI_t h16)).elim | exact (h1 (bI_t h32)).elim | exact (h2 (bI_t h48)).elim | exact (h3 (bI_t h64)).elim
    · refine W_iload_n d_184_35 rfl ?_
      refine W_bipush d_184_36 (v := 30) (by decide) ?_
      refine W_bipush d_184_38 (v := 29) (by decide) ?_
      refine W_aload_n d_184_40 rfl (by decide) ?_
      refine W_getf d_184_41 o_184 k_7_93 rfl rfl ?_
      rw [hS0]
      refine W_iadd d_184_44 ?_
      rw [show ((29 + nI n : Int32)) = nI (29 + n) from nI_add 29 n]
      refine W_callS d_184_45 o_184 k_7_96 (by omega) x_135 rfl (Nat.le_of_ble_eq_true rfl) ?_
      refine W_if_ne (tgt := 70) d_184_48 (by decide) (fun h48 => ?_) (fun h48 => ?_)
      · first | exact (hw (bI_t h16)).elim | exact (h1 (bI_t h32)).elim | exact (h2 (bI_t h48)).elim | exact (h3 (bI_t h64)).elim
      · refine W_iload_n d_184_51 rfl ?_
        refine W_bipush d_184_52 (v := 50) (by decide) ?_
        refine W_bipush d_184_54 (v := 49) (by decide) ?_
        refine W_aload_n d_184_56 rfl (by decide) ?_
        refine W_getf d_184_57 o_184 k_7_93 rfl rfl ?_
        rw [hS0]
        refine W_iadd d_184_60 ?_
        rw [show ((49 + nI n : Int32)) = nI (49 + n) from nI_add 49 n]
        refine W_callS d_184_61 o_184 k_7_96 (by omega) x_135 rfl (Nat.le_of_ble_eq_true rfl) ?_
        refine W_if_ne (tgt := 70) d_184_64 (by decide) (fun h64 => ?_) (fun h64 => ?_)
        · first | exact (hw (bI_t h16)).elim | exact (h1 (bI_t h32)).elim | exact (h2 (bI_t h48)).elim | exact (h3 (bI_t h64)).elim
        · refine W_bipush d_184_67 (v := (-7)) (by decide) ?_
          refine W_iret d_184_69 rt_184 rfl ?_
          exact ⟨rfl, rfl⟩
theorem lq_186 {d : Nat} {g : mG} {N : Nat} {P : Nat → mC} {Y0 : tR} {S0 : Nat → Int32} {R Lr : tR} {z : Nat → Nat} {n p t : Nat} (hX : MS Y0 S0 R Lr z n p t) (hW : WB n R) {m : Nat} (hm : m ≤ 48) {j : Nat} (hj : j < n) {gw was : Int32} (hd : 9 ≤ d) {Q : Option Value → mM → Prop} (kk : ∀ (Y : tR) (S : Nat → Int32) (be le : Int32) (a b : Value), (FRc (fun a k => a = 2 ∧ k = 5 * j + 3) Y0 S0 Y S ∧ bs (bst (-1, 2147483647) (whF R Lr z n p m j gw) 24) be le) → Wp d 186 150 [.ref 92, .int (nI j), .int (nI m), .int gw, .int was, .int be, .int le, .int (nI 24), a, b] [] (N, H3 g P (mm Y S)) Q) : ∀ (k i : Nat) (Y : tR) (S : Nat → Int32) (be le : Int32) (a b : Value), i + k = 24 → (FRc (fun a k => a = 2 ∧ k = 5 * j + 3) Y0 S0 Y S ∧ bs (bst (-1, 2147483647) (whF R Lr z n p m j gw) i) be le) → Wp d 186 49 [.ref 92, .int (nI j), .int (nI m), .int gw, .int was, .int be, .int le, .int (nI i), a, b] [] (N, H3 g P (mm Y S)) Q := by
  have hn12 := hX.2.2.1
  have hp6 := hX.2.2.2.2.1
  intro k
  induction k with
  | zero =>
    intro i Y S be le a b hi hI
    have ei : i = 24 := by omega
    refine W_iload d_186_49 rfl ?_
    refine W_bipush d_186_51 (v := 24) (by decide) ?_
    refine W_icmp_ge (tgt := 150) d_186_53 (by decide) (fun h53 => ?_) (fun h53 => absurd (nI_le (a := 24) (b := i) (by omega) (by omega)) h53)
    rw [ei] at hI ⊢
    exact kk _ _ _ _ _ _ hI
  | succ k ih =>
    intro i Y S be le a b hi hI
    refine W_iload d_186_49 rfl ?_
    refine W_bipush d_186_51 (v := 24) (by decide) ?_
    refine W_icmp_ge (tgt := 150) d_186_53 (by decide) (fun h53 => absurd h53 (nI_ge (a := i) (b := 24) (by omega) (by omega))) (fun h53 => ?_)
    refine W_aload_n d_186_56 rfl (by decide) ?_
    refine W_getf d_186_57 o_186 k_7_16 rfl rfl ?_
    refine W_iconst d_186_60 (v := 5) (by decide) ?_
    refine W_iload_n d_186_61 rfl ?_
    refine W_imul d_186_62 ?_
    rw [show ((5 * nI j : Int32)) = nI (5 * j) from pk_mul 5 j]
    refine W_iconst d_186_63 (v := 3) (by decide) ?_
    refine W_iadd d_186_64 ?_
    rw [show ((nI (5 * j) + 3 : Int32)) = nI (5 * j + 3) from nI_add (5 * j) 3]
    refine W_iload d_186_65 rfl ?_
    refine W_mst (a := 2) d_186_67 rfl (by decide) (n := 60) rfl (vp_in_nI (by omega) (by decide)) (nI_clamp (by omega)) ?_
    refine W_aload_n d_186_68 rfl (by decide) ?_
    refine W_iload_n d_186_69 rfl ?_
    refine W_callVQ d_186_70 o_186 (Or.inl k_7_247) (by omega) (x_181 (set_row (hX.q (close_row hI.1))) (m := m) (by omega) (by omega)) rfl (mrecv_of rfl o_181.symm) rfl (Nat.le_of_ble_eq_true rfl) ?_
    rintro _ _ ⟨rfl, Y1, S1, rfl, hF1, hG1⟩
    refine W_iload_n d_186_73 rfl ?_
    refine W_bipush d_186_74 (v := 10) (by decide) ?_
    refine W_icmp_ge (tgt := 88) d_186_76 (by decide) (fun h76 => ?_) (fun h76 => ?_)
    · refine W_aload_n d_186_88 rfl (by decide) ?_
      refine W_getf d_186_89 o_186 k_7_74 rfl rfl ?_
      refine W_iload_n d_186_92 rfl ?_
      refine W_mld (a := 20) d_186_93 rfl (by decide) (n := 12) rfl (vp_in_nI (by omega) (by decide)) ((congrArg (Y1 20) (nI_clamp (by omega))).trans (hG1.1 j hj).2.1) ?_
      refine W_istore d_186_94 rfl ?_
      refine W_iload d_186_96 rfl ?_
      refine W_iconst d_186_98 (v := (-1)) (by decide) ?_
      refine W_icmp_eq (tgt := 109) d_186_99 (by decide) (fun h99 => ?_) (fun h99 => ?_)
      · refine W_iconst d_186_109 (v := 1) (by decide) ?_
        refine W_goto (tgt := 114) d_186_110 (by decide) ?_
        refine W_istore d_186_114 rfl ?_
        refine W_iload d_186_116 rfl ?_
        refine W_if_eq (tgt := 126) d_186_118 (by decide) (fun h118 => absurd h118 (by decide)) (fun _ => ?_)
        refine W_iload d_186_121 rfl ?_
        refine W_goto (tgt := 128) d_186_123 (by decide) ?_
        refine W_istore d_186_128 rfl ?_
        refine W_iload d_186_130 rfl ?_
        refine W_if_eq (tgt := 140) d_186_132 (by decide) (fun h132 => absurd h132 (by decide)) (fun _ => ?_)
        refine W_iload d_186_135 rfl ?_
        refine W_goto (tgt := 142) d_186_137 (by decide) ?_
        refine W_istore d_186_142 rfl ?_
        refine W_iinc (v := 1) d_186_144 rfl (by decide) rfl ?_
        rw [show ((nI i + 1 : Int32)) = nI (i + 1) from nI_add i 1]
        refine W_goto (tgt := 49) d_186_147 (by decide) ?_
        have h76b : ¬ gw < 10 := Int32.not_lt.mpr h76
        have hv : gon (chg R j 3 (nI i)) Lr z n p m 8 j = (whF R Lr z n p m j gw) i := (if_neg h76b).symm
        have hFn := (hI.1.u (a := 2) (k := 5 * j + 3) (v := nI i) ⟨rfl, rfl⟩ (by decide)).g hF1
        exact ih (i + 1) _ _ _ _ _ _ (by omega) ⟨hFn, bs_new1 hI.2 h99 hv (by rw [hv]; exact whF_lt hW hm hj) (by omega)⟩
      · refine W_iload d_186_102 rfl ?_
        refine W_iload d_186_104 rfl ?_
        refine W_icmp_ge (tgt := 113) d_186_106 (by decide) (fun h106 => ?_) (fun h106 => ?_)
        · refine W_iconst d_186_113 (v := 0) (by decide) ?_
          refine W_istore d_186_114 rfl ?_
          refine W_iload d_186_116 rfl ?_
          refine W_if_eq (tgt := 126) d_186_118 (by decide) (fun _ => ?_) (fun h118 => absurd h118 (by decide))
          refine W_iload d_186_126 rfl ?_
          refine W_istore d_186_128 rfl ?_
          refine W_iload d_186_130 rfl ?_
          refine W_if_eq (tgt := 140) d_186_132 (by decide) (fun _ => ?_) (fun h132 => absurd h132 (by decide))
          refine W_iload d_186_140 rfl ?_
          refine W_istore d_186_142 rfl ?_
          refine W_iinc (v := 1) d_186_144 rfl (by decide) rfl ?_
          rw [show ((nI i + 1 : Int32)) = nI (i + 1) from nI_add i 1]
          refine W_goto (tgt := 49) d_186_147 (by decide) ?_
          have h76b : ¬ gw < 10 := Int32.not_lt.mpr h76
          have hv : gon (chg R j 3 (nI i)) Lr z n p m 8 j = (whF R Lr z n p m j gw) i := (if_neg h76b).symm
          have hFn := (hI.1.u (a := 2) (k := 5 * j + 3) (v := nI i) ⟨rfl, rfl⟩ (by decide)).g hF1
          exact ih (i + 1) _ _ _ _ _ _ (by omega) ⟨hFn, bs_old hI.2 h99 hv (Int32.not_lt.mpr h106)⟩
        · refine W_iconst d_186_109 (v := 1) (by decide) ?_
          refine W_goto (tgt := 114) d_186_110 (by decide) ?_
          refine W_istore d_186_114 rfl ?_
          refine W_iload d_186_116 rfl ?_
          refine W_if_eq (tgt := 126) d_186_118 (by decide) (fun h118 => absurd h118 (by decide)) (fun _ => ?_)
          refine W_iload d_186_121 rfl ?_
          refine W_goto (tgt := 128) d_186_123 (by decide) ?_
          refine W_istore d_186_128 rfl ?_
          refine W_iload d_186_130 rfl ?_
          refine W_if_eq (tgt := 140) d_186_132 (by decide) (fun h132 => absurd h132 (by decide)) (fun _ => ?_)
          refine W_iload d_186_135 rfl ?_
          refine W_goto (tgt := 142) d_186_137 (by decide) ?_
          refine W_istore d_186_142 rfl ?_
          refine W_iinc (v := 1) d_186_144 rfl (by decide) rfl ?_
          rw [show ((nI i + 1 : Int32)) = nI (i + 1) from nI_add i 1]
          refine W_goto (tgt := 49) d_186_147 (by decide) ?_
          have h76b : ¬ gw < 10 := Int32.not_lt.mpr h76
          have hv : gon (chg R j 3 (nI i)) Lr z n p m 8 j = (whF R Lr z n p m j gw) i := (if_neg h76b).symm
          have hFn := (hI.1.u (a := 2) (k := 5 * j + 3) (v := nI i) ⟨rfl, rfl⟩ (by decide)).g hF1
          exact ih (i + 1) _ _ _ _ _ _ (by omega) ⟨hFn, bs_new2 hI.2 h99 hv (Int32.not_le.mp h106) (by omega)⟩
    · refine W_aload_n d_186_79 rfl (by decide) ?_
      refine W_getf d_186_80 o_186 k_7_71 rfl rfl ?_
      refine W_iload_n d_186_83 rfl ?_
      refine W_mld (a := 19) d_186_84 rfl (by decide) (n := 12) rfl (vp_in_nI (by omega) (by decide)) ((congrArg (Y1 19) (nI_clamp (by omega))).trans (hG1.1 j hj).1) ?_
      refine W_goto (tgt := 94) d_186_85 (by decide) ?_
      refine W_istore d_186_94 rfl ?_
      refine W_iload d_186_96 rfl ?_
      refine W_iconst d_186_98 (v := (-1)) (by decide) ?_
      refine W_icmp_eq (tgt := 109) d_186_99 (by decide) (fun h99 => ?_) (fun h99 => ?_)
      · refine W_iconst d_186_109 (v := 1) (by decide) ?_
        refine W_goto (tgt := 114) d_186_110 (by decide) ?_
        refine W_istore d_186_114 rfl ?_
        refine W_iload d_186_116 rfl ?_
        refine W_if_eq (tgt := 126) d_186_118 (by decide) (fun h118 => absurd h118 (by decide)) (fun _ => ?_)
        refine W_iload d_186_121 rfl ?_
        refine W_goto (tgt := 128) d_186_123 (by decide) ?_
        refine W_istore d_186_128 rfl ?_
        refine W_iload d_186_130 rfl ?_
        refine W_if_eq (tgt := 140) d_186_132 (by decide) (fun h132 => absurd h132 (by decide)) (fun _ => ?_)
        refine W_iload d_186_135 rfl ?_
        refine W_goto (tgt := 142) d_186_137 (by decide) ?_
        refine W_istore d_186_142 rfl ?_
        refine W_iinc (v := 1) d_186_144 rfl (by decide) rfl ?_
        rw [show ((nI i + 1 : Int32)) = nI (i + 1) from nI_add i 1]
        refine W_goto (tgt := 49) d_186_147 (by decide) ?_
        have h76b : gw < 10 := Int32.not_le.mp h76
        have hv : gon (chg R j 3 (nI i)) Lr z n p m 7 j = (whF R Lr z n p m j gw) i := (if_pos h76b).symm
        have hFn := (hI.1.u (a := 2) (k := 5 * j + 3) (v := nI i) ⟨rfl, rfl⟩ (by decide)).g hF1
        exact ih (i + 1) _ _ _ _ _ _ (by omega) ⟨hFn, bs_new1 hI.2 h99 hv (by rw [hv]; exact whF_lt hW hm hj) (by omega)⟩
      · refine W_iload d_186_102 rfl ?_
        refine W_iload d_186_104 rfl ?_
        refine W_icmp_ge (tgt := 113) d_186_106 (by decide) (fun h106 => ?_) (fun h106 => ?_)
        · refine W_iconst d_186_113 (v := 0) (by decide) ?_
          refine W_istore d_186_114 rfl ?_
          refine W_iload d_186_116 rfl ?_
          refine W_if_eq (tgt := 126) d_186_118 (by decide) (fun _ => ?_) (fun h118 => absurd h118 (by decide))
          refine W_iload d_186_126 rfl ?_
          refine W_istore d_186_128 rfl ?_
          refine W_iload d_186_130 rfl ?_
          refine W_if_eq (tgt := 140) d_186_132 (by decide) (fun _ => ?_) (fun h132 => absurd h132 (by decide))
          refine W_iload d_186_140 rfl ?_
          refine W_istore d_186_142 rfl ?_
          refine W_iinc (v := 1) d_186_144 rfl (by decide) rfl ?_
          rw [show ((nI i + 1 : Int32)) = nI (i + 1) from nI_add i 1]
          refine W_goto (tgt := 49) d_186_147 (by decide) ?_
          have h76b : gw < 10 := Int32.not_le.mp h76
          have hv : gon (chg R j 3 (nI i)) Lr z n p m 7 j = (whF R Lr z n p m j gw) i := (if_pos h76b).symm
          have hFn := (hI.1.u (a := 2) (k := 5 * j + 3) (v := nI i) ⟨rfl, rfl⟩ (by decide)).g hF1
          exact ih (i + 1) _ _ _ _ _ _ (by omega) ⟨hFn, bs_old hI.2 h99 hv (Int32.not_lt.mpr h106)⟩
        · refine W_iconst d_186_109 (v := 1) (by decide) ?_
          refine W_goto (tgt := 114) d_186_110 (by decide) ?_
          refine W_istore d_186_114 rfl ?_
          refine W_iload d_186_116 rfl ?_
          refine W_if_eq (tgt := 126) d_186_118 (by decide) (fun h118 => absurd h118 (by decide)) (fun _ => ?_)
          refine W_iload d_186_121 rfl ?_
          refine W_goto (tgt := 128) d_186_123 (by decide) ?_
          refine W_istore d_186_128 rfl ?_
          refine W_iload d_186_130 rfl ?_
          refine W_if_eq (tgt := 140) d_186_132 (by decide) (fun h132 => absurd h132 (by decide)) (fun _ => ?_)
          refine W_iload d_186_135 rfl ?_
          refine W_goto (tgt := 142) d_186_137 (by decide) ?_
          refine W_istore d_186_142 rfl ?_
          refine W_iinc (v := 1) d_186_144 rfl (by decide) rfl ?_
          rw [show ((nI i + 1 : Int32)) = nI (i + 1) from nI_add i 1]
          refine W_goto (tgt := 49) d_186_147 (by decide) ?_
          have h76b : gw < 10 := Int32.not_le.mp h76
          have hv : gon (chg R j 3 (nI i)) Lr z n p m 7 j = (whF R Lr z n p m j gw) i := (if_pos h76b).symm
          have hFn := (hI.1.u (a := 2) (k := 5 * j + 3) (v := nI i) ⟨rfl, rfl⟩ (by decide)).g hF1
          exact ih (i + 1) _ _ _ _ _ _ (by omega) ⟨hFn, bs_new2 hI.2 h99 hv (Int32.not_le.mp h106) (by omega)⟩
theorem q_186 {d : Nat} {g : mG} {N : Nat} {P : Nat → mC} {Y : tR} {S : Nat → Int32} {R Lr : tR} {z : Nat → Nat} {n p t : Nat} (hX : MS Y S R Lr z n p t) (hW : WB n R) {m : Nat} (hm : m ≤ 48) {j : Nat} (hj : j < n) {gw : Int32} (hg : ((0 ≤ gw ∧ gw ≤ 11) ∧ i_mod gw 10 ≤ 1)) (hd : 9 ≤ d) : Wp d 186 0 (ment 186 [.ref 92, .int (nI j), .int (nI m), .int gw]) [] (N, H3 g P (mm Y S)) (fun v M' => v = some (.int (pk (i_mod gw 10) (bst (-1, 2147483647) (whF R Lr z n p m j gw) 24))) ∧ ∃ Y' S', M' = (N, H3 g P (mm Y' S')) ∧ FRq Y S Y' S') := by
  have hn12 := hX.2.2.1
  have hp6 := hX.2.2.2.2.1
  have hS0 := hX.n0
  have hS5 := hX.p0
  show Wp _ 186 0 [.ref 92, .int (nI j), .int (nI m), .int gw, .null, .null, .null, .null, .null, .null] [] _ _
  refine W_aload_n d_186_0 rfl (by decide) ?_
  refine W_iload_n d_186_1 rfl ?_
  refine W_callV d_186_2 o_186 (Or.inl k_7_182) (by omega) (x_137 hS0 hn12 (by omega)) rfl (mrecv_of rfl o_137.symm) rfl (Nat.le_of_ble_eq_true rfl) ?_
  refine W_if_ne (tgt := 11) d_186_5 (by decide) (fun h5 => ?_) (fun h5 => absurd h5 (fun q => bI_f q ⟨nI_pos' (by omega), nI_lt hj (by omega)⟩))
  refine W_iload_n d_186_11 rfl ?_
  refine W_callS d_186_12 o_186 k_7_244 (by omega) (x_139 (by omega)) rfl (Nat.le_of_ble_eq_true rfl) ?_
  refine W_if_eq (tgt := 25) d_186_15 (by decide) (fun h15 => absurd h15 (fun q => bI_f q ⟨nI_pos' (by omega), nI_le (a := m) (b := 48) hm (by decide)⟩)) (fun h15 => ?_)
  refine W_iload_n d_186_18 rfl ?_
  refine W_callS d_186_19 o_186 k_7_253 (by omega) (q_185 (by omega)) rfl (Nat.le_of_ble_eq_true rfl) ?_
  refine W_if_ne (tgt := 28) d_186_22 (by decide) (fun h22 => ?_) (fun h22 => absurd h22 (fun q => bI_f q hg))
  refine W_aload_n d_186_28 rfl (by decide) ?_
  refine W_getf d_186_29 o_186 k_7_16 rfl rfl ?_
  refine W_iconst d_186_32 (v := 5) (by decide) ?_
  refine W_iload_n d_186_33 rfl ?_
  refine W_imul d_186_34 ?_
  rw [show ((5 * nI j : Int32)) = nI (5 * j) from pk_mul 5 j]
  refine W_iconst d_186_35 (v := 3) (by decide) ?_
  refine W_iadd d_186_36 ?_
  rw [show ((nI (5 * j) + 3 : Int32)) = nI (5 * j + 3) from nI_add (5 * j) 3]
  refine W_mld (a := 2) d_186_37 rfl (by decide) (n := 60) rfl (vp_in_nI (by omega) (by decide)) (congrArg _ (nI_clamp (by omega))) ?_
  refine W_istore d_186_38 rfl ?_
  refine W_iconst d_186_40 (v := (-1)) (by decide) ?_
  refine W_istore d_186_41 rfl ?_
  refine W_iconst d_186_43 (v := 0) (by decide) ?_
  refine W_istore d_186_44 rfl ?_
  refine W_iconst d_186_46 (v := 0) (by decide) ?_
  refine W_istore d_186_47 rfl ?_
  refine lq_186 (Y0 := Y) (S0 := S) hX hW hm hj hd (fun Y1 S1 be le a b hI => ?_) 24 0 _ _ _ _ _ _ (by omega) ⟨FRc.refl, Or.inl ⟨rfl, rfl⟩⟩
  rw [bs_end hI.2 (k := 0) (by decide) (whF_lt hW hm hj)]
  refine W_aload_n d_186_150 rfl (by decide) ?_
  refine W_getf d_186_151 o_186 k_7_16 rfl rfl ?_
  refine W_iconst d_186_154 (v := 5) (by decide) ?_
  refine W_iload_n d_186_155 rfl ?_
  refine W_imul d_186_156 ?_
  rw [show ((5 * nI j : Int32)) = nI (5 * j) from pk_mul 5 j]
  refine W_iconst d_186_157 (v := 3) (by decide) ?_
  refine W_iadd d_186_158 ?_
  rw [show ((nI (5 * j) + 3 : Int32)) = nI (5 * j + 3) from nI_add (5 * j) 3]
  refine W_iload d_186_159 rfl ?_
  refine W_mst (a := 2) d_186_161 rfl (by decide) (n := 60) rfl (vp_in_nI (by omega) (by decide)) (nI_clamp (by omega)) ?_
  refine W_iload_n d_186_162 rfl ?_
  refine W_bipush d_186_163 (v := 10) (by decide) ?_
  refine W_irem d_186_165 (by decide) ?_
  refine W_if_ne (tgt := 174) d_186_166 (by decide) (fun h166 => ?_) (fun h166 => ?_)
  · refine W_iload d_186_174 rfl ?_
    refine W_iret d_186_176 rt_186 rfl ?_
    exact ⟨congrArg (fun z => some (Value.int z)) (if_neg h166).symm, _, _, rfl, close_row hI.1⟩
  · refine W_iload d_186_169 rfl ?_
    refine W_goto (tgt := 176) d_186_171 (by decide) ?_
    refine W_iret d_186_176 rt_186 rfl ?_
    exact ⟨congrArg (fun z => some (Value.int z)) (if_pos h166).symm, _, _, rfl, close_row hI.1⟩
theorem q_186a {d : Nat} {g : mG} {N : Nat} {P : Nat → mC} {Y : tR} {S : Nat → Int32} {R Lr : tR} {z : Nat → Nat} {n p t : Nat} (hX : MS Y S R Lr z n p t) (hW : WB n R) {v w gw : Int32} (hb : ¬ (0 ≤ v ∧ v < nI n)) (hd : 3 ≤ d) : Ex d 186 [.ref 92, .int v, .int w, .int gw] (N, H3 g P (mm Y S)) (some (.int (-5))) (N, H3 g P (mm Y S)) := by
  have hn12 := hX.2.2.1
  have hp6 := hX.2.2.2.2.1
  have hS0 := hX.n0
  have hS5 := hX.p0
  refine Ex.of ?_
  show Wp _ 186 0 [.ref 92, .int v, .int w, .int gw, .null, .null, .null, .null, .null, .null] [] _ _
  refine W_aload_n d_186_0 rfl (by decide) ?_
  refine W_iload_n d_186_1 rfl ?_
  refine W_callV d_186_2 o_186 (Or.inl k_7_182) (by omega) (x_137 hS0 hn12 (by omega)) rfl (mrecv_of rfl o_137.symm) rfl (Nat.le_of_ble_eq_true rfl) ?_
  refine W_if_ne (tgt := 11) d_186_5 (by decide) (fun h5 => absurd (bI_ne.mpr hb) h5) (fun h5 => ?_)
  refine W_bipush d_186_8 (v := (-5)) (by decide) ?_
  refine W_iret d_186_10 rt_186 rfl ?_
  exact ⟨rfl, rfl⟩
theorem q_186b {d : Nat} {g : mG} {N : Nat} {P : Nat → mC} {Y : tR} {S : Nat → Int32} {R Lr : tR} {z : Nat → Nat} {n p t : Nat} (hX : MS Y S R Lr z n p t) (hW : WB n R) {v w gw : Int32} (ha : 0 ≤ v ∧ v < nI n) (hb : ¬ ((0 ≤ w ∧ w ≤ 48) ∧ ((0 ≤ gw ∧ gw ≤ 11) ∧ i_mod gw 10 ≤ 1))) (hd : 3 ≤ d) : Ex d 186 [.ref 92, .int v, .int w, .int gw] (N, H3 g P (mm Y S)) (some (.int (-7))) (N, H3 g P (mm Y S)) := by
  have hn12 := hX.2.2.1
  have hp6 := hX.2.2.2.2.1
  have hS0 := hX.n0
  have hS5 := hX.p0
  refine Ex.of ?_
  show Wp _ 186 0 [.ref 92, .int v, .int w, .int gw, .null, .null, .null, .null, .null, .null] [] _ _
  refine W_aload_n d_186_0 rfl (by decide) ?_
  refine W_iload_n d_186_1 rfl ?_
  refine W_callV d_186_2 o_186 (Or.inl k_7_182) (by omega) (x_137 hS0 hn12 (by omega)) rfl (mrecv_of rfl o_137.symm) rfl (Nat.le_of_ble_eq_true rfl) ?_
  refine W_if_ne (tgt := 11) d_186_5 (by decide) (fun h5 => ?_) (fun h5 => absurd h5 (fun q => bI_f q ha))
  refine W_iload_n d_186_11 rfl ?_
  refine W_callS d_186_12 o_186 k_7_244 (by omega) (x_139 (by omega)) rfl (Nat.le_of_ble_eq_true rfl) ?_
  refine W_if_eq (tgt := 25) d_186_15 (by decide) (fun h15 => ?_) (fun h15 => ?_)
  · refine W_bipush d_186_25 (v := (-7)) (by decide) ?_
    refine W_iret d_186_27 rt_186 rfl ?_
    exact ⟨rfl, rfl⟩
  · refine W_iload_n d_186_18 rfl ?_
    refine W_callS d_186_19 o_186 k_7_253 (by omega) (q_185 (by omega)) rfl (Nat.le_of_ble_eq_true rfl) ?_
    refine W_if_ne (tgt := 28) d_186_22 (by decide) (fun h22 => ?_) (fun h22 => ?_)
    · exact (hb ⟨bI_t h15, bI_t h22⟩).elim
    · refine W_bipush d_186_25 (v := (-7)) (by decide) ?_
      refine W_iret d_186_27 rt_186 rfl ?_
      exact ⟨rfl, rfl⟩
theorem lq_187 {d : Nat} {g : mG} {N : Nat} {P : Nat → mC} {Y0 : tR} {S0 : Nat → Int32} {R Lr : tR} {z : Nat → Nat} {n p t : Nat} (hX : MS Y0 S0 R Lr z n p t) (hW : WB n R) {m : Nat} (hm : m ≤ 48) {j : Nat} (hj : j < n) {most was T : Int32} (hd : 9 ≤ d) {Q : Option Value → mM → Prop} (kk : ∀ (Y : tR) (S : Nat → Int32) (be : Int32) (c : Value), be = T → FRc (fun a k => a = 2 ∧ k = 5 * j + 2) Y0 S0 Y S → Wp d 187 104 [.ref 92, .int (nI j), .int (nI m), .int most, .int was, .int be, c] [] (N, H3 g P (mm Y S)) Q) : ∀ (k i : Nat) (Y : tR) (S : Nat → Int32) (be : Int32), i + k = 100 → FRc (fun a k => a = 2 ∧ k = 5 * j + 2) Y0 S0 Y S → ((be = -1 ∧ fst1 (fun b => gon (chg R j 2 (nI b)) Lr z n p m 7 j) most k i = T) ∨ (¬ be = -1 ∧ be = T)) → Wp d 187 50 [.ref 92, .int (nI j), .int (nI m), .int most, .int was, .int be, .int (nI i)] [] (N, H3 g P (mm Y S)) Q := by
  have hn12 := hX.2.2.1
  have hp6 := hX.2.2.2.2.1
  intro k
  induction k with
  | zero =>
    intro i Y S be hi hI hT
    refine W_iload d_187_50 rfl ?_
    refine W_bipush d_187_52 (v := 99) (by decide) ?_
    refine W_icmp_gt (tgt := 104) d_187_54 (by decide) (fun h54 => ?_) (fun h54 => absurd (nI_lt (a := 99) (b := i) (by omega) (by omega)) h54)
    rcases hT with ⟨h1, h2⟩ | ⟨_, h2⟩
    · exact kk _ _ _ _ (h1.trans h2) hI
    · exact kk _ _ _ _ h2 hI
  | succ k ih =>
    intro i Y S be hi hI hT
    rcases hT with ⟨h1, h2⟩ | ⟨h1, h2⟩
    · skip
      refine W_iload d_187_50 rfl ?_
      refine W_bipush d_187_52 (v := 99) (by decide) ?_
      refine W_icmp_gt (tgt := 104) d_187_54 (by decide) (fun h54 => absurd h54 (nI_nlt (a := 99) (b := i) (by omega) (by omega))) (fun h54 => ?_)
      refine W_iload d_187_57 rfl ?_
      refine W_iconst d_187_59 (v := (-1)) (by decide) ?_
      refine W_icmp_ne (tgt := 104) d_187_60 (by decide) (fun h60 => absurd h1 h60) (fun h60 => ?_)
      refine W_aload_n d_187_63 rfl (by decide) ?_
      refine W_getf d_187_64 o_187 k_7_16 rfl rfl ?_
      refine W_iconst d_187_67 (v := 5) (by decide) ?_
      refine W_iload_n d_187_68 rfl ?_
      refine W_imul d_187_69 ?_
      rw [show ((5 * nI j : Int32)) = nI (5 * j) from pk_mul 5 j]
      refine W_iconst d_187_70 (v := 2) (by decide) ?_
      refine W_iadd d_187_71 ?_
      rw [show ((nI (5 * j) + 2 : Int32)) = nI (5 * j + 2) from nI_add (5 * j) 2]
      refine W_iload d_187_72 rfl ?_
      refine W_mst (a := 2) d_187_74 rfl (by decide) (n := 60) rfl (vp_in_nI (by omega) (by decide)) (nI_clamp (by omega)) ?_
      refine W_aload_n d_187_75 rfl (by decide) ?_
      refine W_iload_n d_187_76 rfl ?_
      refine W_callVQ d_187_77 o_187 (Or.inl k_7_247) (by omega) (x_181 (set_bay (nI_pos' (by omega)) (hX.q (close_row hI))) (m := m) (by omega) (by omega)) rfl (mrecv_of rfl o_181.symm) rfl (Nat.le_of_ble_eq_true rfl) ?_
      rintro _ _ ⟨rfl, Y1, S1, rfl, hF1, hG1⟩
      refine W_aload_n d_187_80 rfl (by decide) ?_
      refine W_getf d_187_81 o_187 k_7_71 rfl rfl ?_
      refine W_iload_n d_187_84 rfl ?_
      refine W_mld (a := 19) d_187_85 rfl (by decide) (n := 12) rfl (vp_in_nI (by omega) (by decide)) ((congrArg (Y1 19) (nI_clamp (by omega))).trans (hG1.1 j hj).1) ?_
      refine W_iload_n d_187_86 rfl ?_
      refine W_icmp_gt (tgt := 95) d_187_87 (by decide) (fun h87 => ?_) (fun h87 => ?_)
      · refine W_iconst d_187_95 (v := (-1)) (by decide) ?_
        refine W_istore d_187_96 rfl ?_
        refine W_iinc (v := 1) d_187_98 rfl (by decide) rfl ?_
        rw [show ((nI i + 1 : Int32)) = nI (i + 1) from nI_add i 1]
        refine W_goto (tgt := 50) d_187_101 (by decide) ?_
        have hFn := (hI.u (a := 2) (k := 5 * j + 2) (v := nI i) ⟨rfl, rfl⟩ (by decide)).g hF1
        refine ih (i + 1) _ _ _ (by omega) hFn (Or.inl ⟨rfl, ?_⟩)
        rw [← h2, fst1, if_neg (show ¬ (fun b => gon (chg R j 2 (nI b)) Lr z n p m 7 j) i ≤ most from Int32.not_le.mpr h87)]
      · refine W_iload d_187_90 rfl ?_
        refine W_goto (tgt := 96) d_187_92 (by decide) ?_
        refine W_istore d_187_96 rfl ?_
        refine W_iinc (v := 1) d_187_98 rfl (by decide) rfl ?_
        rw [show ((nI i + 1 : Int32)) = nI (i + 1) from nI_add i 1]
        refine W_goto (tgt := 50) d_187_101 (by decide) ?_
        have hFn := (hI.u (a := 2) (k := 5 * j + 2) (v := nI i) ⟨rfl, rfl⟩ (by decide)).g hF1
        refine ih (i + 1) _ _ _ (by omega) hFn (Or.inr ⟨nI_nm1 (by omega), ?_⟩)
        rw [← h2, fst1, if_pos (show (fun b => gon (chg R j 2 (nI b)) Lr z n p m 7 j) i ≤ most from Int32.not_lt.mp h87)]
    · skip
      refine W_iload d_187_50 rfl ?_
      refine W_bipush d_187_52 (v := 99) (by decide) ?_
      refine W_icmp_gt (tgt := 104) d_187_54 (by decide) (fun h54 => absurd h54 (nI_nlt (a := 99) (b := i) (by omega) (by omega))) (fun h54 => ?_)
      refine W_iload d_187_57 rfl ?_
      refine W_iconst d_187_59 (v := (-1)) (by decide) ?_
      refine W_icmp_ne (tgt := 104) d_187_60 (by decide) (fun h60 => ?_) (fun h60 => absurd h60 h1)
      exact kk _ _ _ _ h2 hI
theorem q_187 {d : Nat} {g : mG} {N : Nat} {P : Nat → mC} {Y : tR} {S : Nat → Int32} {R Lr : tR} {z : Nat → Nat} {n p t : Nat} (hX : MS Y S R Lr z n p t) (hW : WB n R) {m : Nat} (hm : m ≤ 48) {j : Nat} (hj : j < n) {most : Int32} (hg : 0 ≤ most ∧ most ≤ 9999) (hd : 9 ≤ d) : Wp d 187 0 (ment 187 [.ref 92, .int (nI j), .int (nI m), .int most]) [] (N, H3 g P (mm Y S)) (fun v M' => v = some (.int (fst1 (fun b => gon (chg R j 2 (nI b)) Lr z n p m 7 j) most 100 0)) ∧ ∃ Y' S', M' = (N, H3 g P (mm Y' S')) ∧ FRq Y S Y' S') := by
  have hn12 := hX.2.2.1
  have hp6 := hX.2.2.2.2.1
  have hS0 := hX.n0
  have hS5 := hX.p0
  show Wp _ 187 0 [.ref 92, .int (nI j), .int (nI m), .int most, .null, .null, .null] [] _ _
  refine W_aload_n d_187_0 rfl (by decide) ?_
  refine W_iload_n d_187_1 rfl ?_
  refine W_callV d_187_2 o_187 (Or.inl k_7_182) (by omega) (x_137 hS0 hn12 (by omega)) rfl (mrecv_of rfl o_137.symm) rfl (Nat.le_of_ble_eq_true rfl) ?_
  refine W_if_ne (tgt := 11) d_187_5 (by decide) (fun h5 => ?_) (fun h5 => absurd h5 (fun q => bI_f q ⟨nI_pos' (by omega), nI_lt hj (by omega)⟩))
  refine W_iload_n d_187_11 rfl ?_
  refine W_callS d_187_12 o_187 k_7_244 (by omega) (x_139 (by omega)) rfl (Nat.le_of_ble_eq_true rfl) ?_
  refine W_if_eq (tgt := 29) d_187_15 (by decide) (fun h15 => absurd h15 (fun q => bI_f q ⟨nI_pos' (by omega), nI_le (a := m) (b := 48) hm (by decide)⟩)) (fun h15 => ?_)
  refine W_iload_n d_187_18 rfl ?_
  refine W_iconst d_187_19 (v := 0) (by decide) ?_
  refine W_sipush d_187_20 (v := 9999) (by decide) ?_
  refine W_callS d_187_23 o_187 k_7_96 (by omega) x_135 rfl (Nat.le_of_ble_eq_true rfl) ?_
  refine W_if_ne (tgt := 32) d_187_26 (by decide) (fun h26 => ?_) (fun h26 => absurd h26 (fun q => bI_f q hg))
  refine W_aload_n d_187_32 rfl (by decide) ?_
  refine W_getf d_187_33 o_187 k_7_16 rfl rfl ?_
  refine W_iconst d_187_36 (v := 5) (by decide) ?_
  refine W_iload_n d_187_37 rfl ?_
  refine W_imul d_187_38 ?_
  rw [show ((5 * nI j : Int32)) = nI (5 * j) from pk_mul 5 j]
  refine W_iconst d_187_39 (v := 2) (by decide) ?_
  refine W_iadd d_187_40 ?_
  rw [show ((nI (5 * j) + 2 : Int32)) = nI (5 * j + 2) from nI_add (5 * j) 2]
  refine W_mld (a := 2) d_187_41 rfl (by decide) (n := 60) rfl (vp_in_nI (by omega) (by decide)) (congrArg _ (nI_clamp (by omega))) ?_
  refine W_istore d_187_42 rfl ?_
  refine W_iconst d_187_44 (v := (-1)) (by decide) ?_
  refine W_istore d_187_45 rfl ?_
  refine W_iconst d_187_47 (v := 0) (by decide) ?_
  refine W_istore d_187_48 rfl ?_
  refine lq_187 (Y0 := Y) (S0 := S) hX hW hm hj hd (fun Y1 S1 be c hT hI => ?_) 100 0 _ _ _ (by omega) FRc.refl (Or.inl ⟨rfl, rfl⟩)
  rw [hT]
  refine W_aload_n d_187_104 rfl (by decide) ?_
  refine W_getf d_187_105 o_187 k_7_16 rfl rfl ?_
  refine W_iconst d_187_108 (v := 5) (by decide) ?_
  refine W_iload_n d_187_109 rfl ?_
  refine W_imul d_187_110 ?_
  rw [show ((5 * nI j : Int32)) = nI (5 * j) from pk_mul 5 j]
  refine W_iconst d_187_111 (v := 2) (by decide) ?_
  refine W_iadd d_187_112 ?_
  rw [show ((nI (5 * j) + 2 : Int32)) = nI (5 * j + 2) from nI_add (5 * j) 2]
  refine W_iload d_187_113 rfl ?_
  refine W_mst (a := 2) d_187_115 rfl (by decide) (n := 60) rfl (vp_in_nI (by omega) (by decide)) (nI_clamp (by omega)) ?_
  refine W_iload d_187_116 rfl ?_
  refine W_iret d_187_118 rt_187 rfl ?_
  exact ⟨rfl, _, _, rfl, close_row hI⟩
theorem q_187a {d : Nat} {g : mG} {N : Nat} {P : Nat → mC} {Y : tR} {S : Nat → Int32} {R Lr : tR} {z : Nat → Nat} {n p t : Nat} (hX : MS Y S R Lr z n p t) (hW : WB n R) {v w gw : Int32} (hb : ¬ (0 ≤ v ∧ v < nI n)) (hd : 3 ≤ d) : Ex d 187 [.ref 92, .int v, .int w, .int gw] (N, H3 g P (mm Y S)) (some (.int (-5))) (N, H3 g P (mm Y S)) := by
  have hn12 := hX.2.2.1
  have hp6 := hX.2.2.2.2.1
  have hS0 := hX.n0
  have hS5 := hX.p0
  refine Ex.of ?_
  show Wp _ 187 0 [.ref 92, .int v, .int w, .int gw, .null, .null, .null] [] _ _
  refine W_aload_n d_187_0 rfl (by decide) ?_
  refine W_iload_n d_187_1 rfl ?_
  refine W_callV d_187_2 o_187 (Or.inl k_7_182) (by omega) (x_137 hS0 hn12 (by omega)) rfl (mrecv_of rfl o_137.symm) rfl (Nat.le_of_ble_eq_true rfl) ?_
  refine W_if_ne (tgt := 11) d_187_5 (by decide) (fun h5 => absurd (bI_ne.mpr hb) h5) (fun h5 => ?_)
  refine W_bipush d_187_8 (v := (-5)) (by decide) ?_
  refine W_iret d_187_10 rt_187 rfl ?_
  exact ⟨rfl, rfl⟩
theorem q_187b {d : Nat} {g : mG} {N : Nat} {P : Nat → mC} {Y : tR} {S : Nat → Int32} {R Lr : tR} {z : Nat → Nat} {n p t : Nat} (hX : MS Y S R Lr z n p t) (hW : WB n R) {v w gw : Int32} (ha : 0 ≤ v ∧ v < nI n) (hb : ¬ ((0 ≤ w ∧ w ≤ 48) ∧ (0 ≤ gw ∧ gw ≤ 9999))) (hd : 3 ≤ d) : Ex d 187 [.ref 92, .int v, .int w, .int gw] (N, H3 g P (mm Y S)) (some (.int (-7))) (N, H3 g P (mm Y S)) := by
  have hn12 := hX.2.2.1
  have hp6 := hX.2.2.2.2.1
  have hS0 := hX.n0
  have hS5 := hX.p0
  refine Ex.of ?_
  show Wp _ 187 0 [.ref 92, .int v, .int w, .int gw, .null, .null, .null] [] _ _
  refine W_aload_n d_187_0 rfl (by decide) ?_
  refine W_iload_n d_187_1 rfl ?_
  refine W_callV d_187_2 o_187 (Or.inl k_7_182) (by omega) (x_137 hS0 hn12 (by omega)) rfl (mrecv_of rfl o_137.symm) rfl (Nat.le_of_ble_eq_true rfl) ?_
  refine W_if_ne (tgt := 11) d_187_5 (by decide) (fun h5 => ?_) (fun h5 => absurd h5 (fun q => bI_f q ha))
  refine W_iload_n d_187_11 rfl ?_
  refine W_callS d_187_12 o_187 k_7_244 (by omega) (x_139 (by omega)) rfl (Nat.le_of_ble_eq_true rfl) ?_
  refine W_if_eq (tgt := 29) d_187_15 (by decide) (fun h15 => ?_) (fun h15 => ?_)
  · refine W_bipush d_187_29 (v := (-7)) (by decide) ?_
    refine W_iret d_187_31 rt_187 rfl ?_
    exact ⟨rfl, rfl⟩
  · refine W_iload_n d_187_18 rfl ?_
    refine W_iconst d_187_19 (v := 0) (by decide) ?_
    refine W_sipush d_187_20 (v := 9999) (by decide) ?_
    refine W_callS d_187_23 o_187 k_7_96 (by omega) x_135 rfl (Nat.le_of_ble_eq_true rfl) ?_
    refine W_if_ne (tgt := 32) d_187_26 (by decide) (fun h26 => ?_) (fun h26 => ?_)
    · exact (hb ⟨bI_t h15, bI_t h26⟩).elim
    · refine W_bipush d_187_29 (v := (-7)) (by decide) ?_
      refine W_iret d_187_31 rt_187 rfl ?_
      exact ⟨rfl, rfl⟩
theorem lq_188 {d : Nat} {g : mG} {N : Nat} {P : Nat → mC} {Y0 : tR} {S0 : Nat → Int32} {R Lr : tR} {z : Nat → Nat} {n p t : Nat} (hX : MS Y0 S0 R Lr z n p t) (hW : WB n R) {m : Nat} (hm : m ≤ 48) {w : Int32} (hd : 9 ≤ d) {Q : Option Value → mM → Prop} (kk : ∀ (Y : tR) (S : Nat → Int32) (a b : Value), (FRq Y0 S0 Y S) → Wp d 188 129 [.ref 92, .int (nI m), .int w, .int (bst (-1, sm7 (gon R Lr z n p m) n) (fun g => sm7 (gon (chg R g 4 1) Lr z n p m) n) n).1, .int (bst (-1, sm7 (gon R Lr z n p m) n) (fun g => sm7 (gon (chg R g 4 1) Lr z n p m) n) n).2, .int (nI n), a, b] [] (N, H3 g P (mm Y S)) Q) : ∀ (k i : Nat) (Y : tR) (S : Nat → Int32) (a b : Value), i + k = n → (FRq Y0 S0 Y S) → Wp d 188 35 [.ref 92, .int (nI m), .int w, .int (bst (-1, sm7 (gon R Lr z n p m) n) (fun g => sm7 (gon (chg R g 4 1) Lr z n p m) n) i).1, .int (bst (-1, sm7 (gon R Lr z n p m) n) (fun g => sm7 (gon (chg R g 4 1) Lr z n p m) n) i).2, .int (nI i), a, b] [] (N, H3 g P (mm Y S)) Q := by
  have hn12 := hX.2.2.1
  have hp6 := hX.2.2.2.2.1
  intro k
  induction k with
  | zero =>
    intro i Y S a b hi hI
    have ei : i = n := by omega
    have hXi := hX.q hI
    have hS0 := hXi.n0
    refine W_iload d_188_35 rfl ?_
    refine W_aload_n d_188_37 rfl (by decide) ?_
    refine W_getf d_188_38 o_188 k_7_93 rfl rfl ?_
    rw [hS0]
    refine W_icmp_ge (tgt := 129) d_188_41 (by decide) (fun h41 => ?_) (fun h41 => absurd (nI_le (a := n) (b := i) (by omega) (by omega)) h41)
    rw [ei]
    exact kk _ _ _ _ hI
  | succ k ih =>
    intro i Y S a b hi hI
    have hXi := hX.q hI
    have hS0 := hXi.n0
    refine W_iload d_188_35 rfl ?_
    refine W_aload_n d_188_37 rfl (by decide) ?_
    refine W_getf d_188_38 o_188 k_7_93 rfl rfl ?_
    rw [hS0]
    refine W_icmp_ge (tgt := 129) d_188_41 (by decide) (fun h41 => absurd h41 (nI_ge (a := i) (b := n) (by omega) (by omega))) (fun h41 => ?_)
    refine W_aload_n d_188_44 rfl (by decide) ?_
    refine W_getf d_188_45 o_188 k_7_16 rfl rfl ?_
    refine W_iconst d_188_48 (v := 5) (by decide) ?_
    refine W_iload d_188_49 rfl ?_
    refine W_imul d_188_51 ?_
    rw [show ((5 * nI i : Int32)) = nI (5 * i) from pk_mul 5 i]
    refine W_iconst d_188_52 (v := 4) (by decide) ?_
    refine W_iadd d_188_53 ?_
    rw [show ((nI (5 * i) + 4 : Int32)) = nI (5 * i + 4) from nI_add (5 * i) 4]
    refine W_mld (a := 2) d_188_54 rfl (by decide) (n := 60) rfl (vp_in_nI (by omega) (by decide)) (congrArg (Y 2) (nI_clamp (by omega))) ?_
    refine W_istore d_188_55 rfl ?_
    refine W_aload_n d_188_57 rfl (by decide) ?_
    refine W_getf d_188_58 o_188 k_7_16 rfl rfl ?_
    refine W_iconst d_188_61 (v := 5) (by decide) ?_
    refine W_iload d_188_62 rfl ?_
    refine W_imul d_188_64 ?_
    rw [show ((5 * nI i : Int32)) = nI (5 * i) from pk_mul 5 i]
    refine W_iconst d_188_65 (v := 4) (by decide) ?_
    refine W_iadd d_188_66 ?_
    rw [show ((nI (5 * i) + 4 : Int32)) = nI (5 * i + 4) from nI_add (5 * i) 4]
    refine W_iconst d_188_67 (v := 1) (by decide) ?_
    refine W_mst (a := 2) d_188_68 rfl (by decide) (n := 60) rfl (vp_in_nI (by omega) (by decide)) (nI_clamp (by omega)) ?_
    refine W_aload_n d_188_69 rfl (by decide) ?_
    refine W_iload_n d_188_70 rfl ?_
    refine W_callVQ d_188_71 o_188 (Or.inl k_7_247) (by omega) (x_181 (set_lift (j := i) (v := 1) hXi) (m := m) (by omega) (by omega)) rfl (mrecv_of rfl o_181.symm) rfl (Nat.le_of_ble_eq_true rfl) ?_
    rintro _ _ ⟨rfl, Y1, S1, rfl, hF1, hG1⟩
    refine W_aload_n d_188_74 rfl (by decide) ?_
    refine W_getf d_188_75 o_188 k_7_16 rfl rfl ?_
    refine W_iconst d_188_78 (v := 5) (by decide) ?_
    refine W_iload d_188_79 rfl ?_
    refine W_imul d_188_81 ?_
    rw [show ((5 * nI i : Int32)) = nI (5 * i) from pk_mul 5 i]
    refine W_iconst d_188_82 (v := 4) (by decide) ?_
    refine W_iadd d_188_83 ?_
    rw [show ((nI (5 * i) + 4 : Int32)) = nI (5 * i + 4) from nI_add (5 * i) 4]
    refine W_iload d_188_84 rfl ?_
    refine W_mst (a := 2) d_188_86 rfl (by decide) (n := 60) rfl (vp_in_nI (by omega) (by decide)) (nI_clamp (by omega)) ?_
    refine W_aload_n d_188_87 rfl (by decide) ?_
    refine W_callV d_188_88 o_188 (Or.inl k_7_223) (by omega) (x_175 (X := gon (chg R i 4 1) Lr z n p m) (n := n) ((hF1.2.1 0 (by decide)).trans hS0) hn12 (fun j hj => (hG1.1 j hj).1)) rfl (mrecv_of rfl o_175.symm) rfl (Nat.le_of_ble_eq_true rfl) ?_
    refine W_istore d_188_91 rfl ?_
    refine W_iload d_188_93 rfl ?_
    refine W_iload d_188_95 rfl ?_
    refine W_icmp_ge (tgt := 105) d_188_97 (by decide) (fun h97 => ?_) (fun h97 => ?_)
    · refine W_iload_n d_188_105 rfl ?_
      refine W_istore_n d_188_106 rfl ?_
      refine W_iload d_188_107 rfl ?_
      refine W_iload d_188_109 rfl ?_
      refine W_icmp_ge (tgt := 119) d_188_111 (by decide) (fun h111 => ?_) (fun h111 => absurd h97 h111)
      refine W_iload d_188_119 rfl ?_
      refine W_istore d_188_121 rfl ?_
      refine W_iinc (v := 1) d_188_123 rfl (by decide) rfl ?_
      rw [show ((nI i + 1 : Int32)) = nI (i + 1) from nI_add i 1]
      refine W_goto (tgt := 35) d_188_126 (by decide) ?_
      have hFn : FRq Y0 S0 (u2 Y1 2 (5 * i + 4) (Y 2 (5 * i + 4))) S1 := FRc.q hI (close_row (((FRc.refl (C := fun a k => a = 2 ∧ k = 5 * i + 4)).u (a := 2) (k := 5 * i + 4) (v := 1) ⟨rfl, rfl⟩ (by decide)).g hF1))
      have h9 := fun a b => ih (i + 1) _ _ a b (by omega) hFn
      rw [bst_f (f := (fun g => sm7 (gon (chg R g 4 1) Lr z n p m) n)) (c := (-1, sm7 (gon R Lr z n p m) n)) (i := i) (v := sm7 (gon (chg R i 4 1) Lr z n p m) n) rfl (Int32.not_lt.mpr h97)] at h9
      exact h9 _ _
    · refine W_iload d_188_100 rfl ?_
      refine W_goto (tgt := 106) d_188_102 (by decide) ?_
      refine W_istore_n d_188_106 rfl ?_
      refine W_iload d_188_107 rfl ?_
      refine W_iload d_188_109 rfl ?_
      refine W_icmp_ge (tgt := 119) d_188_111 (by decide) (fun h111 => absurd h111 h97) (fun h111 => ?_)
      refine W_iload d_188_114 rfl ?_
      refine W_goto (tgt := 121) d_188_116 (by decide) ?_
      refine W_istore d_188_121 rfl ?_
      refine W_iinc (v := 1) d_188_123 rfl (by decide) rfl ?_
      rw [show ((nI i + 1 : Int32)) = nI (i + 1) from nI_add i 1]
      refine W_goto (tgt := 35) d_188_126 (by decide) ?_
      have hFn : FRq Y0 S0 (u2 Y1 2 (5 * i + 4) (Y 2 (5 * i + 4))) S1 := FRc.q hI (close_row (((FRc.refl (C := fun a k => a = 2 ∧ k = 5 * i + 4)).u (a := 2) (k := 5 * i + 4) (v := 1) ⟨rfl, rfl⟩ (by decide)).g hF1))
      have h9 := fun a b => ih (i + 1) _ _ a b (by omega) hFn
      rw [bst_t (f := (fun g => sm7 (gon (chg R g 4 1) Lr z n p m) n)) (c := (-1, sm7 (gon R Lr z n p m) n)) (i := i) (v := sm7 (gon (chg R i 4 1) Lr z n p m) n) rfl (Int32.not_le.mp h97)] at h9
      exact h9 _ _
theorem q_188 {d : Nat} {g : mG} {N : Nat} {P : Nat → mC} {Y : tR} {S : Nat → Int32} {R Lr : tR} {z : Nat → Nat} {n p t : Nat} (hX : MS Y S R Lr z n p t) (hW : WB n R) {m : Nat} (hm : m ≤ 48) {w : Int32} (hw : 0 ≤ w ∧ w ≤ 1) (hd : 9 ≤ d) : Wp d 188 0 (ment 188 [.ref 92, .int (nI m), .int w]) [] (N, H3 g P (mm Y S)) (fun v M' => v = some (.int (pk w (bst (-1, sm7 (gon R Lr z n p m) n) (fun g => sm7 (gon (chg R g 4 1) Lr z n p m) n) n))) ∧ ∃ Y' S', M' = (N, H3 g P (mm Y' S')) ∧ FRq Y S Y' S') := by
  have hn12 := hX.2.2.1
  have hp6 := hX.2.2.2.2.1
  have hS0 := hX.n0
  have hS5 := hX.p0
  show Wp _ 188 0 [.ref 92, .int (nI m), .int w, .null, .null, .null, .null, .null] [] _ _
  refine W_iload_n d_188_0 rfl ?_
  refine W_callS d_188_1 o_188 k_7_244 (by omega) (x_139 (by omega)) rfl (Nat.le_of_ble_eq_true rfl) ?_
  refine W_if_eq (tgt := 16) d_188_4 (by decide) (fun h4 => absurd h4 (fun q => bI_f q ⟨nI_pos' (by omega), nI_le (a := m) (b := 48) hm (by decide)⟩)) (fun h4 => ?_)
  refine W_iload_n d_188_7 rfl ?_
  refine W_iconst d_188_8 (v := 0) (by decide) ?_
  refine W_iconst d_188_9 (v := 1) (by decide) ?_
  refine W_callS d_188_10 o_188 k_7_96 (by omega) x_135 rfl (Nat.le_of_ble_eq_true rfl) ?_
  refine W_if_ne (tgt := 19) d_188_13 (by decide) (fun h13 => ?_) (fun h13 => absurd h13 (fun q => bI_f q hw))
  refine W_aload_n d_188_19 rfl (by decide) ?_
  refine W_iload_n d_188_20 rfl ?_
  refine W_callVQ d_188_21 o_188 (Or.inl k_7_247) (by omega) (x_181 hX (m := m) (by omega) (by omega)) rfl (mrecv_of rfl o_181.symm) rfl (Nat.le_of_ble_eq_true rfl) ?_
  rintro _ _ ⟨rfl, Y1, S1, rfl, hF1, hG1⟩
  refine W_iconst d_188_24 (v := (-1)) (by decide) ?_
  refine W_istore_n d_188_25 rfl ?_
  refine W_aload_n d_188_26 rfl (by decide) ?_
  refine W_callV d_188_27 o_188 (Or.inl k_7_223) (by omega) (x_175 (X := gon R Lr z n p m) (n := n) ((hF1.2.1 0 (by decide)).trans hS0) hn12 (fun j hj => (hG1.1 j hj).1)) rfl (mrecv_of rfl o_175.symm) rfl (Nat.le_of_ble_eq_true rfl) ?_
  refine W_istore d_188_30 rfl ?_
  refine W_iconst d_188_32 (v := 0) (by decide) ?_
  refine W_istore d_188_33 rfl ?_
  refine lq_188 (Y0 := Y) (S0 := S) hX hW hm hd (fun Y2 S2 a b hI => ?_) n 0 _ _ _ _ (by omega) hF1.c
  refine W_iload_n d_188_129 rfl ?_
  refine W_if_ne (tgt := 137) d_188_130 (by decide) (fun h130 => ?_) (fun h130 => ?_)
  · refine W_iload d_188_137 rfl ?_
    refine W_iret d_188_139 rt_188 rfl ?_
    exact ⟨congrArg (fun z => some (Value.int z)) (if_neg h130).symm, _, _, rfl, hI⟩
  · refine W_iload_n d_188_133 rfl ?_
    refine W_goto (tgt := 139) d_188_134 (by decide) ?_
    refine W_iret d_188_139 rt_188 rfl ?_
    exact ⟨congrArg (fun z => some (Value.int z)) (if_pos h130).symm, _, _, rfl, hI⟩
theorem q_188b {d : Nat} {g : mG} {N : Nat} {P : Nat → mC} {Y : tR} {S : Nat → Int32} {R Lr : tR} {z : Nat → Nat} {n p t : Nat} (hX : MS Y S R Lr z n p t) (hW : WB n R) {v w gw : Int32} (hb : ¬ ((0 ≤ v ∧ v ≤ 48) ∧ 0 ≤ w ∧ w ≤ 1)) (hd : 3 ≤ d) : Ex d 188 [.ref 92, .int v, .int w] (N, H3 g P (mm Y S)) (some (.int (-2))) (N, H3 g P (mm Y S)) := by
  have hn12 := hX.2.2.1
  have hp6 := hX.2.2.2.2.1
  have hS0 := hX.n0
  have hS5 := hX.p0
  refine Ex.of ?_
  show Wp _ 188 0 [.ref 92, .int v, .int w, .null, .null, .null, .null, .null] [] _ _
  refine W_iload_n d_188_0 rfl ?_
  refine W_callS d_188_1 o_188 k_7_244 (by omega) (x_139 (by omega)) rfl (Nat.le_of_ble_eq_true rfl) ?_
  refine W_if_eq (tgt := 16) d_188_4 (by decide) (fun h4 => ?_) (fun h4 => ?_)
  · refine W_bipush d_188_16 (v := (-2)) (by decide) ?_
    refine W_iret d_188_18 rt_188 rfl ?_
    exact ⟨rfl, rfl⟩
  · refine W_iload_n d_188_7 rfl ?_
    refine W_iconst d_188_8 (v := 0) (by decide) ?_
    refine W_iconst d_188_9 (v := 1) (by decide) ?_
    refine W_callS d_188_10 o_188 k_7_96 (by omega) x_135 rfl (Nat.le_of_ble_eq_true rfl) ?_
    refine W_if_ne (tgt := 19) d_188_13 (by decide) (fun h13 => ?_) (fun h13 => ?_)
    · exact (hb ⟨bI_t h4, bI_t h13⟩).elim
    · refine W_bipush d_188_16 (v := (-2)) (by decide) ?_
      refine W_iret d_188_18 rt_188 rfl ?_
      exact ⟨rfl, rfl⟩
