/-! THE MODEL: sides, gains, helps (wip/whole/gen42.py) -/
theorem es_tps {n p : Nat} {Y1 Y0 : tR} {S1 S0 : Nat → Int32} {R : tR} {b : Int32} (hn12 : n ≤ 12) (h : ES n (MA Y0 S0) R) (hI : FRc (fun a _ => a = 5) Y0 S0 Y1 S1) (h1 : ∀ k, k < p → Y1 5 k = (b >>> (nI k &&& 31)) &&& 1) (h2 : ∀ k, k < 6 → ¬ k < p → Y1 5 k = Y0 5 k) : ES n (MA Y1 S1) (tps R b p) := by
  refine ES.of (fun a b ha hb => ?_) (fun a b ha ha2 hb => ?_) (fun b hb => ?_)
  · unfold tps
    rw [if_neg (by omega), ← h.lo ha hb]
    have : a = 0 ∨ a = 1 ∨ a = 2 ∨ a = 3 ∨ a = 4 ∨ a = 5 ∨ a = 6 := by omega
    rcases this with rfl | rfl | rfl | rfl | rfl | rfl | rfl
    · exact (hI.2.1 b (by omega)).1 (show ¬ 0 = 5 by decide)
    · exact (hI.2.1 b (by omega)).2 (show ¬ 1 = 5 by decide)
    · exact hI.2.2.1 (5 * b + (2 - 2)) (by omega) (show ¬ 2 = 5 by decide)
    · exact hI.2.2.1 (5 * b + (3 - 2)) (by omega) (show ¬ 2 = 5 by decide)
    · exact hI.2.2.1 (5 * b + (4 - 2)) (by omega) (show ¬ 2 = 5 by decide)
    · exact hI.2.2.1 (5 * b + (5 - 2)) (by omega) (show ¬ 2 = 5 by decide)
    · exact hI.2.2.1 (5 * b + (6 - 2)) (by omega) (show ¬ 2 = 5 by decide)
  · have : a = 9 ∨ a = 10 ∨ a = 11 := by omega
    rcases this with rfl | rfl | rfl
    · unfold tps
      rw [if_neg (by omega), ← h.hi (a := 9) (b := b) (by decide) (by decide) hb]
      exact (hI.2.2.2.1 b hb).1 (show ¬ 3 = 5 by decide)
    · unfold tps
      rw [if_neg (by omega), ← h.hi (a := 10) (b := b) (by decide) (by decide) hb]
      exact congrFun (hI.1 4 (by unfold SPC; omega)) b
    · unfold tps
      by_cases e : b < p
      · rw [if_pos ⟨rfl, e⟩]; exact h1 b e
      · rw [if_neg (fun q => e q.2), ← h.hi (a := 11) (b := b) (by decide) (by decide) hb]
        exact h2 b hb e
  · unfold tps
    rw [if_neg (by omega), ← h.tw hb]
    have : b = 0 ∨ b = 1 ∨ b = 2 ∨ b = 3 ∨ b = 4 := by omega
    rcases this with rfl | rfl | rfl | rfl | rfl
    · exact hI.2.2.2.2 0 (by decide) (by decide)
    · exact hI.2.2.2.2 5 (by decide) (by decide)
    · exact hI.2.2.2.2 8 (by decide) (by decide)
    · exact hI.2.2.2.2 9 (by decide) (by decide)
    · exact hI.2.2.2.2 15 (by decide) (by decide)
theorem set_tps {n p t : Nat} {Y1 Y0 : tR} {S1 S0 : Nat → Int32} {R Lr : tR} {z : Nat → Nat} {b : Int32} (hX : MS Y0 S0 R Lr z n p t) (hI : FRc (fun a _ => a = 5) Y0 S0 Y1 S1) (h1 : ∀ k, k < p → Y1 5 k = (b >>> (nI k &&& 31)) &&& 1) (h2 : ∀ k, k < 6 → ¬ k < p → Y1 5 k = Y0 5 k) : MS Y1 S1 (tps R b p) Lr z n p t := by
  refine hX.set (es_tps hX.2.2.1 hX.1 hI h1 h2) rfl rfl rfl (FRc.lm hI) (fun j hj => ?_)
  have := hX.2.2.2.2.2.2.2.2.2 j hj
  exact this
theorem tps_mb {R : tR} {n p : Nat} {b : Int32} (hW : WB n R) : MB n (tps R b p) := fun i hi => hW.mb i hi
theorem gon_mom {R Lr : tR} {z : Nat → Nat} {n p m : Nat} (hn12 : n ≤ 12) (hW : MB n R) (hm : m ≤ 48) : mom (gon R Lr z n p m) n = mx7 (gon R Lr z n p m) n := (mom_mx7 (fun j hj => (gon_tb hW hm j hj).1) hn12).1
theorem sdF_lt {R Lr : tR} {z : Nat → Nat} {n p m : Nat} {gw : Int32} {i : Nat} (hn12 : n ≤ 12) (hW : WB n R) (hm : m ≤ 48) : sdF R Lr z n p m gw i < 2147483647 := by
  have t := gon_tb (Lr := Lr) (z := z) (n := n) (p := p) (tps_mb (p := p) (b := nI i) hW) hm
  unfold sdF
  split
  · have := sm8T hm t n (Nat.le_refl _) hn12
    exact lt_max (by omega)
  · rw [gon_mom hn12 (tps_mb hW) hm]
    have := mx7T hm t n (Nat.le_refl _)
    exact lt_max (by omega)
theorem set_lik {Y : tR} {S : Nat → Int32} {R Lr : tR} {z : Nat → Nat} {n p t j o : Nat} (hj : j < n) (hms : MS Y S R Lr z n p t) : MS (u2 (u2 Y 0 o (Y 0 j)) 1 o (Y 1 j)) S (lik R j o) Lr z n p t := by
  have k0 : Y 0 j = R 0 j := hms.1.lo (a := 0) (b := j) (by decide) hj
  have k1 : Y 1 j = R 1 j := hms.1.lo (a := 1) (b := j) (by decide) hj
  have e1 := mes_0 (A := fun _ => R) (r := 0) (j := o) (v := Y 0 j) hms.1 rfl
  have e2 := mes_1 (Y := u2 Y 0 o (Y 0 j)) (A := u3 (fun _ => R) 0 0 o (Y 0 j)) (r := 0) (j := o) (v := Y 1 j) e1 rfl
  have e3 : u3 (u3 (fun _ => R) 0 0 o (Y 0 j)) 0 1 o (Y 1 j) 0 = lik R j o := by
    funext a b
    rw [u3_ap, u3_ap, k0, k1]
    unfold lik
    by_cases q1 : a = 1 ∧ b = o
    · rw [if_pos ⟨rfl, q1⟩, if_neg (by omega), if_pos q1]
    · rw [if_neg (fun q => q1 q.2)]
      by_cases q0 : a = 0 ∧ b = o
      · rw [if_pos ⟨rfl, q0⟩, if_pos q0]
      · rw [if_neg (fun q => q0 q.2), if_neg q0, if_neg q1]
  rw [e3] at e2
  exact hms.set e2 rfl rfl rfl (fun q => lm_u (by decide) (lm_u (by decide) q)) hms.2.2.2.2.2.2.2.2.2
theorem lik_mb {R : tR} {n j o : Nat} (hj : j < n) (hW : WB n R) : MB n (lik R j o) := fun i hi => by
  unfold lik
  rw [if_neg (by omega)]
  split
  · exact hW.mb j hj
  · exact hW.mb i hi
theorem hlF_lt {R Lr : tR} {z : Nat → Nat} {n p m j i : Nat} (hW : WB n R) (hm : m ≤ 48) (hj : j < n) (hi : i < n) (h : ¬ i = j) : hlF R Lr z n p m j i < 2147483647 := by
  have t := gon_tb (Lr := Lr) (z := z) (p := p) (lik_mb (o := i) hj hW) hm
  have a := t j hj
  have b := t i hi
  unfold hlF
  rw [if_neg h]
  refine lt_max ?_
  rw [addT (by omega) (by omega) (by omega) (by omega)]
  omega
theorem set_kind {Y : tR} {S : Nat → Int32} {R Lr : tR} {z : Nat → Nat} {n p t j : Nat} {v : Int32} (hms : MS Y S R Lr z n p t) : MS (u2 Y 0 j v) S (chg R j 5 v) Lr z n p t :=
  hms.set (R' := chg R j 5 v) (mes_0 (A := fun _ => R) (r := 0) hms.1 rfl) rfl rfl rfl (lm_u (by decide)) hms.2.2.2.2.2.2.2.2.2
theorem lq_189a {d : Nat} {g : mG} {N : Nat} {P : Nat → mC} {Y0 : tR} {S0 : Nat → Int32} {m : Nat} {gw : Int32} (hd : 0 ≤ d) {Q : Option Value → mM → Prop} (kk : ∀ (Y : tR) (S : Nat → Int32) , (FRc (fun a _ => a = 5) Y0 S0 Y S ∧ (∀ k, k < 6 → Y 5 k = Y0 5 k) ∧ (∀ k, k < 6 → Y 23 k = Y0 5 k)) → Wp d 189 43 [.ref 92, .int (nI m), .int gw, .int (nI 6), .null, .null, .null, .null] [] (N, H3 g P (mm Y S)) Q) : ∀ (k i : Nat) (Y : tR) (S : Nat → Int32) , i + k = 6 → (FRc (fun a _ => a = 5) Y0 S0 Y S ∧ (∀ k, k < 6 → Y 5 k = Y0 5 k) ∧ (∀ k, k < i → Y 23 k = Y0 5 k)) → Wp d 189 19 [.ref 92, .int (nI m), .int gw, .int (nI i), .null, .null, .null, .null] [] (N, H3 g P (mm Y S)) Q := by
  intro k
  induction k with
  | zero =>
    intro i Y S  hi hI
    have ei : i = 6 := by omega
    refine W_iload_n d_189_19 rfl ?_
    refine W_bipush d_189_20 (v := 6) (by decide) ?_
    refine W_icmp_ge (tgt := 43) d_189_22 (by decide) (fun h22 => ?_) (fun h22 => absurd (nI_le (a := 6) (b := i) (by omega) (by omega)) h22)
    rw [ei] at hI ⊢
    exact kk _ _ hI
  | succ k ih =>
    intro i Y S  hi hI
    refine W_iload_n d_189_19 rfl ?_
    refine W_bipush d_189_20 (v := 6) (by decide) ?_
    refine W_icmp_ge (tgt := 43) d_189_22 (by decide) (fun h22 => absurd h22 (nI_ge (a := i) (b := 6) (by omega) (by omega))) (fun h22 => ?_)
    refine W_aload_n d_189_25 rfl (by decide) ?_
    refine W_getf d_189_26 o_189 k_7_83 rfl rfl ?_
    refine W_iload_n d_189_29 rfl ?_
    refine W_aload_n d_189_30 rfl (by decide) ?_
    refine W_getf d_189_31 o_189 k_7_25 rfl rfl ?_
    refine W_iload_n d_189_34 rfl ?_
    refine W_mld (a := 5) d_189_35 rfl (by decide) (n := 6) rfl (vp_in_nI (by omega) (by decide)) ((congrArg (Y 5) (nI_clamp (by omega))).trans (hI.2.1 i (by omega))) ?_
    refine W_mst (a := 23) d_189_36 rfl (by decide) (n := 6) rfl (vp_in_nI (by omega) (by decide)) (nI_clamp (by omega)) ?_
    refine W_iinc (v := 1) d_189_37 rfl (by decide) rfl ?_
    rw [show ((nI i + 1 : Int32)) = nI (i + 1) from nI_add i 1]
    refine W_goto (tgt := 19) d_189_40 (by decide) ?_
    refine ih (i + 1) _ _ (by omega) ⟨hI.1.k (by decide), fun k hk => (congrFun (u2_row (by decide)) k).trans (hI.2.1 k hk), fun k hk => ?_⟩
    rw [u2_ap]
    by_cases e : k = i
    · rw [if_pos ⟨rfl, e⟩, e]
    · rw [if_neg (fun q => e q.2)]; exact hI.2.2 k (by omega)
theorem lq_189b {d : Nat} {g : mG} {N : Nat} {P : Nat → mC} {Y0 : tR} {S0 : Nat → Int32} {R Lr : tR} {z : Nat → Nat} {n p t : Nat} (hX : MS Y0 S0 R Lr z n p t) (hW : WB n R) {m b : Nat} {gw be le : Int32} {c : Value} (hd : 0 ≤ d) {Q : Option Value → mM → Prop} (kk : ∀ (Y : tR) (S : Nat → Int32) , (FRc (fun a _ => a = 5) Y0 S0 Y S ∧ (∀ k, k < 6 → Y 23 k = Y0 5 k) ∧ (∀ k, k < p → Y 5 k = (nI b >>> (nI k &&& 31)) &&& 1) ∧ (∀ k, k < 6 → ¬ k < p → Y 5 k = Y0 5 k)) → Wp d 189 94 [.ref 92, .int (nI m), .int gw, .int be, .int le, .int (nI b), .int (nI p), c] [] (N, H3 g P (mm Y S)) Q) : ∀ (k i : Nat) (Y : tR) (S : Nat → Int32) , i + k = p → (FRc (fun a _ => a = 5) Y0 S0 Y S ∧ (∀ k, k < 6 → Y 23 k = Y0 5 k) ∧ (∀ k, k < i → Y 5 k = (nI b >>> (nI k &&& 31)) &&& 1) ∧ (∀ k, k < 6 → ¬ k < p → Y 5 k = Y0 5 k)) → Wp d 189 65 [.ref 92, .int (nI m), .int gw, .int be, .int le, .int (nI b), .int (nI i), c] [] (N, H3 g P (mm Y S)) Q := by
  have hn12 := hX.2.2.1
  have hp6 := hX.2.2.2.2.1
  intro k
  induction k with
  | zero =>
    intro i Y S  hi hI
    have ei : i = p := by omega
    have hS5 : S 5 = nI p := (hI.1.2.2.2.2 5 (by decide) (by decide)).trans hX.p0
    refine W_iload d_189_65 rfl ?_
    refine W_aload_n d_189_67 rfl (by decide) ?_
    refine W_getf d_189_68 o_189 k_7_100 rfl rfl ?_
    rw [hS5]
    refine W_icmp_ge (tgt := 94) d_189_71 (by decide) (fun h71 => ?_) (fun h71 => absurd (nI_le (a := p) (b := i) (by omega) (by omega)) h71)
    rw [ei] at hI ⊢
    exact kk _ _ hI
  | succ k ih =>
    intro i Y S  hi hI
    have hS5 : S 5 = nI p := (hI.1.2.2.2.2 5 (by decide) (by decide)).trans hX.p0
    refine W_iload d_189_65 rfl ?_
    refine W_aload_n d_189_67 rfl (by decide) ?_
    refine W_getf d_189_68 o_189 k_7_100 rfl rfl ?_
    rw [hS5]
    refine W_icmp_ge (tgt := 94) d_189_71 (by decide) (fun h71 => absurd h71 (nI_ge (a := i) (b := p) (by omega) (by omega))) (fun h71 => ?_)
    refine W_aload_n d_189_74 rfl (by decide) ?_
    refine W_getf d_189_75 o_189 k_7_25 rfl rfl ?_
    refine W_iload d_189_78 rfl ?_
    refine W_iload d_189_80 rfl ?_
    refine W_iload d_189_82 rfl ?_
    refine W_ishr d_189_84 ?_
    refine W_iconst d_189_85 (v := 1) (by decide) ?_
    refine W_iand d_189_86 ?_
    refine W_mst (a := 5) d_189_87 rfl (by decide) (n := 6) rfl (vp_in_nI (by omega) (by decide)) (nI_clamp (by omega)) ?_
    refine W_iinc (v := 1) d_189_88 rfl (by decide) rfl ?_
    rw [show ((nI i + 1 : Int32)) = nI (i + 1) from nI_add i 1]
    refine W_goto (tgt := 65) d_189_91 (by decide) ?_
    refine ih (i + 1) _ _ (by omega) ⟨hI.1.u rfl (by decide), fun k hk => (congrFun (u2_row (by decide)) k).trans (hI.2.1 k hk), fun k hk => ?_, fun k hk hp => ?_⟩
    · rw [u2_ap]
      by_cases e : k = i
      · rw [if_pos ⟨rfl, e⟩, e]
      · rw [if_neg (fun q => e q.2)]; exact hI.2.2.1 k (by omega)
    · rw [u2_ap, if_neg (by omega)]; exact hI.2.2.2 k hk hp
theorem lq_189 {d : Nat} {g : mG} {N : Nat} {P : Nat → mC} {Y0 : tR} {S0 : Nat → Int32} {R Lr : tR} {z : Nat → Nat} {n p t : Nat} (hX : MS Y0 S0 R Lr z n p t) (hW : WB n R) {m : Nat} (hm : m ≤ 48) {gw : Int32} (hd : 9 ≤ d) {Q : Option Value → mM → Prop} (kk : ∀ (Y : tR) (S : Nat → Int32) (be le : Int32) (a b : Value), (FRc (fun a _ => a = 5) Y0 S0 Y S ∧ (∀ k, k < 6 → Y 23 k = Y0 5 k) ∧ (∀ k, k < 6 → ¬ k < p → Y 5 k = Y0 5 k) ∧ bs (bst (-1, 2147483647) (sdF R Lr z n p m gw) (2 ^ p)) be le) → Wp d 189 169 [.ref 92, .int (nI m), .int gw, .int be, .int le, .int (nI (2 ^ p)), a, b] [] (N, H3 g P (mm Y S)) Q) : ∀ (k i : Nat) (Y : tR) (S : Nat → Int32) (be le : Int32) (a b : Value), i + k = (2 ^ p) → (FRc (fun a _ => a = 5) Y0 S0 Y S ∧ (∀ k, k < 6 → Y 23 k = Y0 5 k) ∧ (∀ k, k < 6 → ¬ k < p → Y 5 k = Y0 5 k) ∧ bs (bst (-1, 2147483647) (sdF R Lr z n p m gw) i) be le) → Wp d 189 51 [.ref 92, .int (nI m), .int gw, .int be, .int le, .int (nI i), a, b] [] (N, H3 g P (mm Y S)) Q := by
  have hn12 := hX.2.2.1
  have hp6 := hX.2.2.2.2.1
  intro k
  induction k with
  | zero =>
    intro i Y S be le a b hi hI
    have ei : i = (2 ^ p) := by omega
    have hp2 := p2_le (p := p) hp6
    have hS5 : S 5 = nI p := (hI.1.2.2.2.2 5 (by decide) (by decide)).trans hX.p0
    refine W_iload d_189_51 rfl ?_
    refine W_iconst d_189_53 (v := 1) (by decide) ?_
    refine W_aload_n d_189_54 rfl (by decide) ?_
    refine W_getf d_189_55 o_189 k_7_100 rfl rfl ?_
    rw [hS5]
    refine W_ishl d_189_58 ?_
    rw [shl1 hp6]
    refine W_icmp_ge (tgt := 169) d_189_59 (by decide) (fun h59 => ?_) (fun h59 => absurd (nI_le (a := 2 ^ p) (b := i) (by omega) (by omega)) h59)
    rw [ei] at hI ⊢
    exact kk _ _ _ _ _ _ hI
  | succ k ih =>
    intro i Y S be le a b hi hI
    have hp2 := p2_le (p := p) hp6
    have hS5 : S 5 = nI p := (hI.1.2.2.2.2 5 (by decide) (by decide)).trans hX.p0
    refine W_iload d_189_51 rfl ?_
    refine W_iconst d_189_53 (v := 1) (by decide) ?_
    refine W_aload_n d_189_54 rfl (by decide) ?_
    refine W_getf d_189_55 o_189 k_7_100 rfl rfl ?_
    rw [hS5]
    refine W_ishl d_189_58 ?_
    rw [shl1 hp6]
    refine W_icmp_ge (tgt := 169) d_189_59 (by decide) (fun h59 => absurd h59 (nI_ge (a := i) (b := 2 ^ p) (by omega) (by omega))) (fun h59 => ?_)
    refine W_iconst d_189_62 (v := 0) (by decide) ?_
    refine W_istore d_189_63 rfl ?_
    refine lq_189b (Y0 := Y0) (S0 := S0) (b := i) hX hW (Nat.zero_le _) (fun Y4 S4 h4 => ?_) p 0 _ _ (by omega) ⟨hI.1, hI.2.1, fun k hk => absurd hk (by omega), hI.2.2.1⟩
    refine W_aload_n d_189_94 rfl (by decide) ?_
    refine W_iload_n d_189_95 rfl ?_
    refine W_callVQ d_189_96 o_189 (Or.inl k_7_247) (by omega) (x_181 (set_tps hX h4.1 h4.2.2.1 h4.2.2.2) (m := m) (by omega) (by omega)) rfl (mrecv_of rfl o_181.symm) rfl (Nat.le_of_ble_eq_true rfl) ?_
    rintro _ _ ⟨rfl, Y1, S1, rfl, hF1, hG1⟩
    refine W_iload_n d_189_99 rfl ?_
    refine W_bipush d_189_100 (v := 10) (by decide) ?_
    refine W_icmp_ge (tgt := 112) d_189_102 (by decide) (fun h102 => ?_) (fun h102 => ?_)
    · refine W_aload_n d_189_112 rfl (by decide) ?_
      refine W_callV d_189_113 o_189 (Or.inl k_7_256) (by omega) (x_177 (X := gon (tps R (nI i) p) Lr z n p m) (n := n) ((hF1.2.1 0 (by decide)).trans (set_tps hX h4.1 h4.2.2.1 h4.2.2.2).n0) hn12 (fun j hj => (hG1.1 j hj).1)) rfl (mrecv_of rfl o_177.symm) rfl (Nat.le_of_ble_eq_true rfl) ?_
      refine W_istore d_189_116 rfl ?_
      refine W_iload_n d_189_118 rfl ?_
      refine W_iconst d_189_119 (v := (-1)) (by decide) ?_
      refine W_icmp_eq (tgt := 130) d_189_120 (by decide) (fun h120 => ?_) (fun h120 => ?_)
      · refine W_iconst d_189_130 (v := 1) (by decide) ?_
        refine W_goto (tgt := 135) d_189_131 (by decide) ?_
        refine W_istore d_189_135 rfl ?_
        refine W_iload d_189_137 rfl ?_
        refine W_if_eq (tgt := 147) d_189_139 (by decide) (fun h139 => absurd h139 (by decide)) (fun _ => ?_)
        refine W_iload d_189_142 rfl ?_
        refine W_goto (tgt := 148) d_189_144 (by decide) ?_
        refine W_istore_n d_189_148 rfl ?_
        refine W_iload d_189_149 rfl ?_
        refine W_if_eq (tgt := 159) d_189_151 (by decide) (fun h151 => absurd h151 (by decide)) (fun _ => ?_)
        refine W_iload d_189_154 rfl ?_
        refine W_goto (tgt := 161) d_189_156 (by decide) ?_
        refine W_istore d_189_161 rfl ?_
        refine W_iinc (v := 1) d_189_163 rfl (by decide) rfl ?_
        rw [show ((nI i + 1 : Int32)) = nI (i + 1) from nI_add i 1]
        refine W_goto (tgt := 51) d_189_166 (by decide) ?_
        have hg : ¬ gw < 10 := Int32.not_lt.mpr h102
        have hv : mx7 (gon (tps R (nI i) p) Lr z n p m) n = (sdF R Lr z n p m gw) i := (gon_mom hn12 (tps_mb hW) hm).symm.trans (if_neg hg).symm
        have hFn := h4.1.g hF1
        have h23 : ∀ k, k < 6 → Y1 23 k = Y0 5 k := fun k hk => (congrFun (hF1.1 23 (by decide)) k).trans (h4.2.1 k hk)
        have h5n : ∀ k, k < 6 → ¬ k < p → Y1 5 k = Y0 5 k := fun k hk hp => (congrFun (hF1.1 5 (by decide)) k).trans (h4.2.2.2 k hk hp)
        exact ih (i + 1) _ _ _ _ _ _ (by omega) ⟨hFn, h23, h5n, bs_new1 hI.2.2.2 h120 hv (by rw [hv]; exact sdF_lt hn12 hW hm) (by omega)⟩
      · refine W_iload d_189_123 rfl ?_
        refine W_iload d_189_125 rfl ?_
        refine W_icmp_ge (tgt := 134) d_189_127 (by decide) (fun h127 => ?_) (fun h127 => ?_)
        · refine W_iconst d_189_134 (v := 0) (by decide) ?_
          refine W_istore d_189_135 rfl ?_
          refine W_iload d_189_137 rfl ?_
          refine W_if_eq (tgt := 147) d_189_139 (by decide) (fun _ => ?_) (fun h139 => absurd h139 (by decide))
          refine W_iload_n d_189_147 rfl ?_
          refine W_istore_n d_189_148 rfl ?_
          refine W_iload d_189_149 rfl ?_
          refine W_if_eq (tgt := 159) d_189_151 (by decide) (fun _ => ?_) (fun h151 => absurd h151 (by decide))
          refine W_iload d_189_159 rfl ?_
          refine W_istore d_189_161 rfl ?_
          refine W_iinc (v := 1) d_189_163 rfl (by decide) rfl ?_
          rw [show ((nI i + 1 : Int32)) = nI (i + 1) from nI_add i 1]
          refine W_goto (tgt := 51) d_189_166 (by decide) ?_
          have hg : ¬ gw < 10 := Int32.not_lt.mpr h102
          have hv : mx7 (gon (tps R (nI i) p) Lr z n p m) n = (sdF R Lr z n p m gw) i := (gon_mom hn12 (tps_mb hW) hm).symm.trans (if_neg hg).symm
          have hFn := h4.1.g hF1
          have h23 : ∀ k, k < 6 → Y1 23 k = Y0 5 k := fun k hk => (congrFun (hF1.1 23 (by decide)) k).trans (h4.2.1 k hk)
          have h5n : ∀ k, k < 6 → ¬ k < p → Y1 5 k = Y0 5 k := fun k hk hp => (congrFun (hF1.1 5 (by decide)) k).trans (h4.2.2.2 k hk hp)
          exact ih (i + 1) _ _ _ _ _ _ (by omega) ⟨hFn, h23, h5n, bs_old hI.2.2.2 h120 hv (Int32.not_lt.mpr h127)⟩
        · refine W_iconst d_189_130 (v := 1) (by decide) ?_
          refine W_goto (tgt := 135) d_189_131 (by decide) ?_
          refine W_istore d_189_135 rfl ?_
          refine W_iload d_189_137 rfl ?_
          refine W_if_eq (tgt := 147) d_189_139 (by decide) (fun h139 => absurd h139 (by decide)) (fun _ => ?_)
          refine W_iload d_189_142 rfl ?_
          refine W_goto (tgt := 148) d_189_144 (by decide) ?_
          refine W_istore_n d_189_148 rfl ?_
          refine W_iload d_189_149 rfl ?_
          refine W_if_eq (tgt := 159) d_189_151 (by decide) (fun h151 => absurd h151 (by decide)) (fun _ => ?_)
          refine W_iload d_189_154 rfl ?_
          refine W_goto (tgt := 161) d_189_156 (by decide) ?_
          refine W_istore d_189_161 rfl ?_
          refine W_iinc (v := 1) d_189_163 rfl (by decide) rfl ?_
          rw [show ((nI i + 1 : Int32)) = nI (i + 1) from nI_add i 1]
          refine W_goto (tgt := 51) d_189_166 (by decide) ?_
          have hg : ¬ gw < 10 := Int32.not_lt.mpr h102
          have hv : mx7 (gon (tps R (nI i) p) Lr z n p m) n = (sdF R Lr z n p m gw) i := (gon_mom hn12 (tps_mb hW) hm).symm.trans (if_neg hg).symm
          have hFn := h4.1.g hF1
          have h23 : ∀ k, k < 6 → Y1 23 k = Y0 5 k := fun k hk => (congrFun (hF1.1 23 (by decide)) k).trans (h4.2.1 k hk)
          have h5n : ∀ k, k < 6 → ¬ k < p → Y1 5 k = Y0 5 k := fun k hk hp => (congrFun (hF1.1 5 (by decide)) k).trans (h4.2.2.2 k hk hp)
          exact ih (i + 1) _ _ _ _ _ _ (by omega) ⟨hFn, h23, h5n, bs_new2 hI.2.2.2 h120 hv (Int32.not_le.mp h127) (by omega)⟩
    · refine W_aload_n d_189_105 rfl (by decide) ?_
      refine W_callV d_189_106 o_189 (Or.inl k_7_238) (by omega) (x_176 (X := gon (tps R (nI i) p) Lr z n p m) (n := n) ((hF1.2.1 0 (by decide)).trans (set_tps hX h4.1 h4.2.2.1 h4.2.2.2).n0) hn12 (fun j hj => (hG1.1 j hj).2.1)) rfl (mrecv_of rfl o_176.symm) rfl (Nat.le_of_ble_eq_true rfl) ?_
      refine W_goto (tgt := 116) d_189_109 (by decide) ?_
      refine W_istore d_189_116 rfl ?_
      refine W_iload_n d_189_118 rfl ?_
      refine W_iconst d_189_119 (v := (-1)) (by decide) ?_
      refine W_icmp_eq (tgt := 130) d_189_120 (by decide) (fun h120 => ?_) (fun h120 => ?_)
      · refine W_iconst d_189_130 (v := 1) (by decide) ?_
        refine W_goto (tgt := 135) d_189_131 (by decide) ?_
        refine W_istore d_189_135 rfl ?_
        refine W_iload d_189_137 rfl ?_
        refine W_if_eq (tgt := 147) d_189_139 (by decide) (fun h139 => absurd h139 (by decide)) (fun _ => ?_)
        refine W_iload d_189_142 rfl ?_
        refine W_goto (tgt := 148) d_189_144 (by decide) ?_
        refine W_istore_n d_189_148 rfl ?_
        refine W_iload d_189_149 rfl ?_
        refine W_if_eq (tgt := 159) d_189_151 (by decide) (fun h151 => absurd h151 (by decide)) (fun _ => ?_)
        refine W_iload d_189_154 rfl ?_
        refine W_goto (tgt := 161) d_189_156 (by decide) ?_
        refine W_istore d_189_161 rfl ?_
        refine W_iinc (v := 1) d_189_163 rfl (by decide) rfl ?_
        rw [show ((nI i + 1 : Int32)) = nI (i + 1) from nI_add i 1]
        refine W_goto (tgt := 51) d_189_166 (by decide) ?_
        have hg : gw < 10 := Int32.not_le.mp h102
        have hv : sm8 (gon (tps R (nI i) p) Lr z n p m) n = (sdF R Lr z n p m gw) i := (if_pos hg).symm
        have hFn := h4.1.g hF1
        have h23 : ∀ k, k < 6 → Y1 23 k = Y0 5 k := fun k hk => (congrFun (hF1.1 23 (by decide)) k).trans (h4.2.1 k hk)
        have h5n : ∀ k, k < 6 → ¬ k < p → Y1 5 k = Y0 5 k := fun k hk hp => (congrFun (hF1.1 5 (by decide)) k).trans (h4.2.2.2 k hk hp)
        exact ih (i + 1) _ _ _ _ _ _ (by omega) ⟨hFn, h23, h5n, bs_new1 hI.2.2.2 h120 hv (by rw [hv]; exact sdF_lt hn12 hW hm) (by omega)⟩
      · refine W_iload d_189_123 rfl ?_
        refine W_iload d_189_125 rfl ?_
        refine W_icmp_ge (tgt := 134) d_189_127 (by decide) (fun h127 => ?_) (fun h127 => ?_)
        · refine W_iconst d_189_134 (v := 0) (by decide) ?_
          refine W_istore d_189_135 rfl ?_
          refine W_iload d_189_137 rfl ?_
          refine W_if_eq (tgt := 147) d_189_139 (by decide) (fun _ => ?_) (fun h139 => absurd h139 (by decide))
          refine W_iload_n d_189_147 rfl ?_
          refine W_istore_n d_189_148 rfl ?_
          refine W_iload d_189_149 rfl ?_
          refine W_if_eq (tgt := 159) d_189_151 (by decide) (fun _ => ?_) (fun h151 => absurd h151 (by decide))
          refine W_iload d_189_159 rfl ?_
          refine W_istore d_189_161 rfl ?_
          refine W_iinc (v := 1) d_189_163 rfl (by decide) rfl ?_
          rw [show ((nI i + 1 : Int32)) = nI (i + 1) from nI_add i 1]
          refine W_goto (tgt := 51) d_189_166 (by decide) ?_
          have hg : gw < 10 := Int32.not_le.mp h102
          have hv : sm8 (gon (tps R (nI i) p) Lr z n p m) n = (sdF R Lr z n p m gw) i := (if_pos hg).symm
          have hFn := h4.1.g hF1
          have h23 : ∀ k, k < 6 → Y1 23 k = Y0 5 k := fun k hk => (congrFun (hF1.1 23 (by decide)) k).trans (h4.2.1 k hk)
          have h5n : ∀ k, k < 6 → ¬ k < p → Y1 5 k = Y0 5 k := fun k hk hp => (congrFun (hF1.1 5 (by decide)) k).trans (h4.2.2.2 k hk hp)
          exact ih (i + 1) _ _ _ _ _ _ (by omega) ⟨hFn, h23, h5n, bs_old hI.2.2.2 h120 hv (Int32.not_lt.mpr h127)⟩
        · refine W_iconst d_189_130 (v := 1) (by decide) ?_
          refine W_goto (tgt := 135) d_189_131 (by decide) ?_
          refine W_istore d_189_135 rfl ?_
          refine W_iload d_189_137 rfl ?_
          refine W_if_eq (tgt := 147) d_189_139 (by decide) (fun h139 => absurd h139 (by decide)) (fun _ => ?_)
          refine W_iload d_189_142 rfl ?_
          refine W_goto (tgt := 148) d_189_144 (by decide) ?_
          refine W_istore_n d_189_148 rfl ?_
          refine W_iload d_189_149 rfl ?_
          refine W_if_eq (tgt := 159) d_189_151 (by decide) (fun h151 => absurd h151 (by decide)) (fun _ => ?_)
          refine W_iload d_189_154 rfl ?_
          refine W_goto (tgt := 161) d_189_156 (by decide) ?_
          refine W_istore d_189_161 rfl ?_
          refine W_iinc (v := 1) d_189_163 rfl (by decide) rfl ?_
          rw [show ((nI i + 1 : Int32)) = nI (i + 1) from nI_add i 1]
          refine W_goto (tgt := 51) d_189_166 (by decide) ?_
          have hg : gw < 10 := Int32.not_le.mp h102
          have hv : sm8 (gon (tps R (nI i) p) Lr z n p m) n = (sdF R Lr z n p m gw) i := (if_pos hg).symm
          have hFn := h4.1.g hF1
          have h23 : ∀ k, k < 6 → Y1 23 k = Y0 5 k := fun k hk => (congrFun (hF1.1 23 (by decide)) k).trans (h4.2.1 k hk)
          have h5n : ∀ k, k < 6 → ¬ k < p → Y1 5 k = Y0 5 k := fun k hk hp => (congrFun (hF1.1 5 (by decide)) k).trans (h4.2.2.2 k hk hp)
          exact ih (i + 1) _ _ _ _ _ _ (by omega) ⟨hFn, h23, h5n, bs_new2 hI.2.2.2 h120 hv (Int32.not_le.mp h127) (by omega)⟩
theorem lq_189c {d : Nat} {g : mG} {N : Nat} {P : Nat → mC} {Y0 : tR} {S0 : Nat → Int32} {m : Nat} {gw be le : Int32} {a b : Value} (hd : 0 ≤ d) {Q : Option Value → mM → Prop} (kk : ∀ (Y : tR) (S : Nat → Int32) , (FRc (fun a _ => a = 5) Y0 S0 Y S ∧ (∀ k, k < 6 → Y 23 k = Y0 5 k) ∧ (∀ k, k < 6 → Y 5 k = Y0 5 k)) → Wp d 189 199 [.ref 92, .int (nI m), .int gw, .int be, .int le, .int (nI 6), a, b] [] (N, H3 g P (mm Y S)) Q) : ∀ (k i : Nat) (Y : tR) (S : Nat → Int32) , i + k = 6 → (FRc (fun a _ => a = 5) Y0 S0 Y S ∧ (∀ k, k < 6 → Y 23 k = Y0 5 k) ∧ (∀ k, k < i → Y 5 k = Y0 5 k)) → Wp d 189 172 [.ref 92, .int (nI m), .int gw, .int be, .int le, .int (nI i), a, b] [] (N, H3 g P (mm Y S)) Q := by
  intro k
  induction k with
  | zero =>
    intro i Y S  hi hI
    have ei : i = 6 := by omega
    refine W_iload d_189_172 rfl ?_
    refine W_bipush d_189_174 (v := 6) (by decide) ?_
    refine W_icmp_ge (tgt := 199) d_189_176 (by decide) (fun h176 => ?_) (fun h176 => absurd (nI_le (a := 6) (b := i) (by omega) (by omega)) h176)
    rw [ei] at hI ⊢
    exact kk _ _ hI
  | succ k ih =>
    intro i Y S  hi hI
    refine W_iload d_189_172 rfl ?_
    refine W_bipush d_189_174 (v := 6) (by decide) ?_
    refine W_icmp_ge (tgt := 199) d_189_176 (by decide) (fun h176 => absurd h176 (nI_ge (a := i) (b := 6) (by omega) (by omega))) (fun h176 => ?_)
    refine W_aload_n d_189_179 rfl (by decide) ?_
    refine W_getf d_189_180 o_189 k_7_25 rfl rfl ?_
    refine W_iload d_189_183 rfl ?_
    refine W_aload_n d_189_185 rfl (by decide) ?_
    refine W_getf d_189_186 o_189 k_7_83 rfl rfl ?_
    refine W_iload d_189_189 rfl ?_
    refine W_mld (a := 23) d_189_191 rfl (by decide) (n := 6) rfl (vp_in_nI (by omega) (by decide)) ((congrArg (Y 23) (nI_clamp (by omega))).trans (hI.2.1 i (by omega))) ?_
    refine W_mst (a := 5) d_189_192 rfl (by decide) (n := 6) rfl (vp_in_nI (by omega) (by decide)) (nI_clamp (by omega)) ?_
    refine W_iinc (v := 1) d_189_193 rfl (by decide) rfl ?_
    rw [show ((nI i + 1 : Int32)) = nI (i + 1) from nI_add i 1]
    refine W_goto (tgt := 172) d_189_196 (by decide) ?_
    refine ih (i + 1) _ _ (by omega) ⟨hI.1.u rfl (by decide), fun k hk => (congrFun (u2_row (by decide)) k).trans (hI.2.1 k hk), fun k hk => ?_⟩
    rw [u2_ap]
    by_cases e : k = i
    · rw [if_pos ⟨rfl, e⟩, e]
    · rw [if_neg (fun q => e q.2)]; exact hI.2.2 k (by omega)
theorem q_189 {d : Nat} {g : mG} {N : Nat} {P : Nat → mC} {Y : tR} {S : Nat → Int32} {R Lr : tR} {z : Nat → Nat} {n p t : Nat} (hX : MS Y S R Lr z n p t) (hW : WB n R) {m : Nat} (hm : m ≤ 48) {gw : Int32} (hg : ((0 ≤ gw ∧ gw ≤ 11) ∧ i_mod gw 10 ≤ 1)) (hd : 9 ≤ d) : Wp d 189 0 (ment 189 [.ref 92, .int (nI m), .int gw]) [] (N, H3 g P (mm Y S)) (fun v M' => v = some (.int (pk (i_mod gw 10) (bst (-1, 2147483647) (sdF R Lr z n p m gw) (2 ^ p)))) ∧ ∃ Y' S', M' = (N, H3 g P (mm Y' S')) ∧ FRq Y S Y' S') := by
  have hn12 := hX.2.2.1
  have hp6 := hX.2.2.2.2.1
  have hS0 := hX.n0
  have hS5 := hX.p0
  show Wp _ 189 0 [.ref 92, .int (nI m), .int gw, .null, .null, .null, .null, .null] [] _ _
  refine W_iload_n d_189_0 rfl ?_
  refine W_callS d_189_1 o_189 k_7_244 (by omega) (x_139 (by omega)) rfl (Nat.le_of_ble_eq_true rfl) ?_
  refine W_if_eq (tgt := 14) d_189_4 (by decide) (fun h4 => absurd h4 (fun q => bI_f q ⟨nI_pos' (by omega), nI_le (a := m) (b := 48) hm (by decide)⟩)) (fun h4 => ?_)
  refine W_iload_n d_189_7 rfl ?_
  refine W_callS d_189_8 o_189 k_7_253 (by omega) (q_185 (by omega)) rfl (Nat.le_of_ble_eq_true rfl) ?_
  refine W_if_ne (tgt := 17) d_189_11 (by decide) (fun h11 => ?_) (fun h11 => absurd h11 (fun q => bI_f q hg))
  refine W_iconst d_189_17 (v := 0) (by decide) ?_
  refine W_istore_n d_189_18 rfl ?_
  refine lq_189a (Y0 := Y) (S0 := S) (Nat.zero_le _) (fun Y1 S1 h1 => ?_) 6 0 _ _ (by omega) ⟨FRc.refl, fun _ _ => rfl, fun k hk => absurd hk (by omega)⟩
  refine W_iconst d_189_43 (v := (-1)) (by decide) ?_
  refine W_istore_n d_189_44 rfl ?_
  refine W_iconst d_189_45 (v := 0) (by decide) ?_
  refine W_istore d_189_46 rfl ?_
  refine W_iconst d_189_48 (v := 0) (by decide) ?_
  refine W_istore d_189_49 rfl ?_
  refine lq_189 (Y0 := Y) (S0 := S) hX hW hm hd (fun Y2 S2 be le a b hI => ?_) (2 ^ p) 0 _ _ _ _ _ _ (by omega) ⟨h1.1, h1.2.2, fun k hk _ => h1.2.1 k hk, Or.inl ⟨rfl, rfl⟩⟩
  rw [bs_end hI.2.2.2 (k := 0) (Nat.two_pow_pos p) (sdF_lt hn12 hW hm)]
  refine W_iconst d_189_169 (v := 0) (by decide) ?_
  refine W_istore d_189_170 rfl ?_
  refine lq_189c (Y0 := Y) (S0 := S) (Nat.zero_le _) (fun Y3 S3 h3 => ?_) 6 0 _ _ (by omega) ⟨hI.1, hI.2.1, fun k hk => absurd hk (by omega)⟩
  refine W_iload_n d_189_199 rfl ?_
  refine W_bipush d_189_200 (v := 10) (by decide) ?_
  refine W_irem d_189_202 (by decide) ?_
  refine W_if_ne (tgt := 210) d_189_203 (by decide) (fun h203 => ?_) (fun h203 => ?_)
  · refine W_iload d_189_210 rfl ?_
    refine W_iret d_189_212 rt_189 rfl ?_
    exact ⟨congrArg (fun z => some (Value.int z)) (if_neg h203).symm, _, _, rfl, h3.1.close (fun k _ q => absurd q (by decide)) (fun k _ q => absurd q (by decide)) (fun k _ q => absurd q (by decide)) (fun k _ q => absurd q (by decide)) (fun k hk _ => h3.2.2 k hk) (fun k q => absurd q (by decide))⟩
  · refine W_iload_n d_189_206 rfl ?_
    refine W_goto (tgt := 212) d_189_207 (by decide) ?_
    refine W_iret d_189_212 rt_189 rfl ?_
    exact ⟨congrArg (fun z => some (Value.int z)) (if_pos h203).symm, _, _, rfl, h3.1.close (fun k _ q => absurd q (by decide)) (fun k _ q => absurd q (by decide)) (fun k _ q => absurd q (by decide)) (fun k _ q => absurd q (by decide)) (fun k hk _ => h3.2.2 k hk) (fun k q => absurd q (by decide))⟩
theorem q_189b {d : Nat} {g : mG} {N : Nat} {P : Nat → mC} {Y : tR} {S : Nat → Int32} {R Lr : tR} {z : Nat → Nat} {n p t : Nat} (hX : MS Y S R Lr z n p t) (hW : WB n R) {v w gw : Int32} (hb : ¬ ((0 ≤ v ∧ v ≤ 48) ∧ ((0 ≤ gw ∧ gw ≤ 11) ∧ i_mod gw 10 ≤ 1))) (hd : 3 ≤ d) : Ex d 189 [.ref 92, .int v, .int gw] (N, H3 g P (mm Y S)) (some (.int (-2))) (N, H3 g P (mm Y S)) := by
  have hn12 := hX.2.2.1
  have hp6 := hX.2.2.2.2.1
  have hS0 := hX.n0
  have hS5 := hX.p0
  refine Ex.of ?_
  show Wp _ 189 0 [.ref 92, .int v, .int gw, .null, .null, .null, .null, .null] [] _ _
  refine W_iload_n d_189_0 rfl ?_
  refine W_callS d_189_1 o_189 k_7_244 (by omega) (x_139 (by omega)) rfl (Nat.le_of_ble_eq_true rfl) ?_
  refine W_if_eq (tgt := 14) d_189_4 (by decide) (fun h4 => ?_) (fun h4 => ?_)
  · refine W_bipush d_189_14 (v := (-2)) (by decide) ?_
    refine W_iret d_189_16 rt_189 rfl ?_
    exact ⟨rfl, rfl⟩
  · refine W_iload_n d_189_7 rfl ?_
    refine W_callS d_189_8 o_189 k_7_253 (by omega) (q_185 (by omega)) rfl (Nat.le_of_ble_eq_true rfl) ?_
    refine W_if_ne (tgt := 17) d_189_11 (by decide) (fun h11 => ?_) (fun h11 => ?_)
    · exact (hb ⟨bI_t h4, bI_t h11⟩).elim
    · refine W_bipush d_189_14 (v := (-2)) (by decide) ?_
      refine W_iret d_189_16 rt_189 rfl ?_
      exact ⟨rfl, rfl⟩
theorem q_190 {d : Nat} {g : mG} {N : Nat} {P : Nat → mC} {Y : tR} {S : Nat → Int32} {R Lr : tR} {z : Nat → Nat} {n p t : Nat} (hX : MS Y S R Lr z n p t) (hW : WB n R) {m : Nat} (hm : m ≤ 48) {j : Nat} (hj : j < n) {w : Int32} (hw : 0 ≤ w ∧ w ≤ 1) (hd : 9 ≤ d) : Wp d 190 0 (ment 190 [.ref 92, .int (nI j), .int (nI m), .int w]) [] (N, H3 g P (mm Y S)) (fun v M' => v = some (.int (if w = 0 then (gon R Lr z n p m) 7 j - (gon (chg R j 5 2) Lr z n p m) 7 j else sm7 (gon (chg R j 5 2) Lr z n p m) n - (gon (chg R j 5 2) Lr z n p m) 7 j - (sm7 (gon R Lr z n p m) n - (gon R Lr z n p m) 7 j))) ∧ ∃ Y' S', M' = (N, H3 g P (mm Y' S')) ∧ FRq Y S Y' S') := by
  have hn12 := hX.2.2.1
  have hp6 := hX.2.2.2.2.1
  have hS0 := hX.n0
  have hS5 := hX.p0
  show Wp _ 190 0 [.ref 92, .int (nI j), .int (nI m), .int w, .null, .null, .null] [] _ _
  refine W_aload_n d_190_0 rfl (by decide) ?_
  refine W_iload_n d_190_1 rfl ?_
  refine W_callV d_190_2 o_190 (Or.inl k_7_182) (by omega) (x_137 hS0 hn12 (by omega)) rfl (mrecv_of rfl o_137.symm) rfl (Nat.le_of_ble_eq_true rfl) ?_
  refine W_if_ne (tgt := 12) d_190_5 (by decide) (fun h5 => ?_) (fun h5 => absurd h5 (fun q => bI_f q ⟨nI_pos' (by omega), nI_lt hj (by omega)⟩))
  refine W_iload_n d_190_12 rfl ?_
  refine W_callS d_190_13 o_190 k_7_244 (by omega) (x_139 (by omega)) rfl (Nat.le_of_ble_eq_true rfl) ?_
  refine W_if_eq (tgt := 28) d_190_16 (by decide) (fun h16 => absurd h16 (fun q => bI_f q ⟨nI_pos' (by omega), nI_le (a := m) (b := 48) hm (by decide)⟩)) (fun h16 => ?_)
  refine W_iload_n d_190_19 rfl ?_
  refine W_iconst d_190_20 (v := 0) (by decide) ?_
  refine W_iconst d_190_21 (v := 1) (by decide) ?_
  refine W_callS d_190_22 o_190 k_7_96 (by omega) x_135 rfl (Nat.le_of_ble_eq_true rfl) ?_
  refine W_if_ne (tgt := 32) d_190_25 (by decide) (fun h25 => ?_) (fun h25 => absurd h25 (fun q => bI_f q hw))
  refine W_aload_n d_190_32 rfl (by decide) ?_
  refine W_iload_n d_190_33 rfl ?_
  refine W_callVQ d_190_34 o_190 (Or.inl k_7_247) (by omega) (x_181 hX (m := m) (by omega) (by omega)) rfl (mrecv_of rfl o_181.symm) rfl (Nat.le_of_ble_eq_true rfl) ?_
  rintro _ _ ⟨rfl, Y1, S1, rfl, hF1, hG1⟩
  refine W_aload_n d_190_37 rfl (by decide) ?_
  refine W_getf d_190_38 o_190 k_7_71 rfl rfl ?_
  refine W_iload_n d_190_41 rfl ?_
  refine W_mld (a := 19) d_190_42 rfl (by decide) (n := 12) rfl (vp_in_nI (by omega) (by decide)) ((congrArg (Y1 19) (nI_clamp (by omega))).trans (hG1.1 j hj).1) ?_
  refine W_istore d_190_43 rfl ?_
  refine W_aload_n d_190_45 rfl (by decide) ?_
  refine W_callV d_190_46 o_190 (Or.inl k_7_223) (by omega) (x_175 (X := (gon R Lr z n p m)) (n := n) ((hF1.2.1 0 (by decide)).trans hS0) hn12 (fun j hj => (hG1.1 j hj).1)) rfl (mrecv_of rfl o_175.symm) rfl (Nat.le_of_ble_eq_true rfl) ?_
  refine W_iload d_190_49 rfl ?_
  refine W_isub d_190_51 ?_
  refine W_istore d_190_52 rfl ?_
  refine W_aload_n d_190_54 rfl (by decide) ?_
  refine W_getf d_190_55 o_190 k_7_7 rfl rfl ?_
  refine W_iload_n d_190_58 rfl ?_
  refine W_mld (a := 0) d_190_59 rfl (by decide) (n := 12) rfl (vp_in_nI (by omega) (by decide)) (congrArg (Y1 0) (nI_clamp (by omega))) ?_
  refine W_istore d_190_60 rfl ?_
  refine W_aload_n d_190_62 rfl (by decide) ?_
  refine W_getf d_190_63 o_190 k_7_7 rfl rfl ?_
  refine W_iload_n d_190_66 rfl ?_
  refine W_iconst d_190_67 (v := 2) (by decide) ?_
  refine W_mst (a := 0) d_190_68 rfl (by decide) (n := 12) rfl (vp_in_nI (by omega) (by decide)) (nI_clamp (by omega)) ?_
  refine W_aload_n d_190_69 rfl (by decide) ?_
  refine W_iload_n d_190_70 rfl ?_
  refine W_callVQ d_190_71 o_190 (Or.inl k_7_247) (by omega) (x_181 (set_kind (j := j) (v := 2) (hX.fr hF1)) (m := m) (by omega) (by omega)) rfl (mrecv_of rfl o_181.symm) rfl (Nat.le_of_ble_eq_true rfl) ?_
  rintro _ _ ⟨rfl, Y2, S2, rfl, hF2, hG2⟩
  refine W_aload_n d_190_74 rfl (by decide) ?_
  refine W_getf d_190_75 o_190 k_7_7 rfl rfl ?_
  refine W_iload_n d_190_78 rfl ?_
  refine W_iload d_190_79 rfl ?_
  refine W_mst (a := 0) d_190_81 rfl (by decide) (n := 12) rfl (vp_in_nI (by omega) (by decide)) (nI_clamp (by omega)) ?_
  refine W_iload_n d_190_82 rfl ?_
  refine W_if_ne (tgt := 98) d_190_83 (by decide) (fun h83 => ?_) (fun h83 => ?_)
  · refine W_aload_n d_190_98 rfl (by decide) ?_
    refine W_callV d_190_99 o_190 (Or.inl k_7_223) (by omega) (x_175 (X := (gon (chg R j 5 2) Lr z n p m)) (n := n) ((hF2.2.1 0 (by decide)).trans ((hF1.2.1 0 (by decide)).trans hS0)) hn12 (fun j hj => (hG2.1 j hj).1)) rfl (mrecv_of rfl o_175.symm) rfl (Nat.le_of_ble_eq_true rfl) ?_
    refine W_aload_n d_190_102 rfl (by decide) ?_
    refine W_getf d_190_103 o_190 k_7_71 rfl rfl ?_
    refine W_iload_n d_190_106 rfl ?_
    refine W_mld (a := 19) d_190_107 rfl (by decide) (n := 12) rfl (vp_in_nI (by omega) (by decide)) ((congrArg (Y2 19) (nI_clamp (by omega))).trans (hG2.1 j hj).1) ?_
    refine W_isub d_190_108 ?_
    refine W_iload d_190_109 rfl ?_
    refine W_isub d_190_111 ?_
    refine W_iret d_190_112 rt_190 rfl ?_
    exact ⟨congrArg (fun z => some (Value.int z)) (if_neg h83).symm, _, _, rfl, FRc.q (FRg.c hF1) (close_0 (((FRc.refl (C := fun a k => a = 0 ∧ k = j)).u (a := 0) (k := j) (v := 2) ⟨rfl, rfl⟩ (by decide)).g hF2))⟩
  · refine W_iload d_190_86 rfl ?_
    refine W_aload_n d_190_88 rfl (by decide) ?_
    refine W_getf d_190_89 o_190 k_7_71 rfl rfl ?_
    refine W_iload_n d_190_92 rfl ?_
    refine W_mld (a := 19) d_190_93 rfl (by decide) (n := 12) rfl (vp_in_nI (by omega) (by decide)) ((congrArg (Y2 19) (nI_clamp (by omega))).trans (hG2.1 j hj).1) ?_
    refine W_isub d_190_94 ?_
    refine W_goto (tgt := 112) d_190_95 (by decide) ?_
    refine W_iret d_190_112 rt_190 rfl ?_
    exact ⟨congrArg (fun z => some (Value.int z)) (if_pos h83).symm, _, _, rfl, FRc.q (FRg.c hF1) (close_0 (((FRc.refl (C := fun a k => a = 0 ∧ k = j)).u (a := 0) (k := j) (v := 2) ⟨rfl, rfl⟩ (by decide)).g hF2))⟩
theorem q_190a {d : Nat} {g : mG} {N : Nat} {P : Nat → mC} {Y : tR} {S : Nat → Int32} {R Lr : tR} {z : Nat → Nat} {n p t : Nat} (hX : MS Y S R Lr z n p t) (hW : WB n R) {v w gw : Int32} (hb : ¬ (0 ≤ v ∧ v < nI n)) (hd : 3 ≤ d) : Ex d 190 [.ref 92, .int v, .int w, .int gw] (N, H3 g P (mm Y S)) (some (.int (-1000005))) (N, H3 g P (mm Y S)) := by
  have hn12 := hX.2.2.1
  have hp6 := hX.2.2.2.2.1
  have hS0 := hX.n0
  have hS5 := hX.p0
  refine Ex.of ?_
  show Wp _ 190 0 [.ref 92, .int v, .int w, .int gw, .null, .null, .null] [] _ _
  refine W_aload_n d_190_0 rfl (by decide) ?_
  refine W_iload_n d_190_1 rfl ?_
  refine W_callV d_190_2 o_190 (Or.inl k_7_182) (by omega) (x_137 hS0 hn12 (by omega)) rfl (mrecv_of rfl o_137.symm) rfl (Nat.le_of_ble_eq_true rfl) ?_
  refine W_if_ne (tgt := 12) d_190_5 (by decide) (fun h5 => absurd (bI_ne.mpr hb) h5) (fun h5 => ?_)
  refine W_ldcwI d_190_8 o_190 k_7_259 (v := (-1000005)) (by decide) ?_
  refine W_iret d_190_11 rt_190 rfl ?_
  exact ⟨rfl, rfl⟩
theorem q_190b {d : Nat} {g : mG} {N : Nat} {P : Nat → mC} {Y : tR} {S : Nat → Int32} {R Lr : tR} {z : Nat → Nat} {n p t : Nat} (hX : MS Y S R Lr z n p t) (hW : WB n R) {v w gw : Int32} (ha : 0 ≤ v ∧ v < nI n) (hb : ¬ ((0 ≤ w ∧ w ≤ 48) ∧ 0 ≤ gw ∧ gw ≤ 1)) (hd : 3 ≤ d) : Ex d 190 [.ref 92, .int v, .int w, .int gw] (N, H3 g P (mm Y S)) (some (.int (-1000007))) (N, H3 g P (mm Y S)) := by
  have hn12 := hX.2.2.1
  have hp6 := hX.2.2.2.2.1
  have hS0 := hX.n0
  have hS5 := hX.p0
  refine Ex.of ?_
  show Wp _ 190 0 [.ref 92, .int v, .int w, .int gw, .null, .null, .null] [] _ _
  refine W_aload_n d_190_0 rfl (by decide) ?_
  refine W_iload_n d_190_1 rfl ?_
  refine W_callV d_190_2 o_190 (Or.inl k_7_182) (by omega) (x_137 hS0 hn12 (by omega)) rfl (mrecv_of rfl o_137.symm) rfl (Nat.le_of_ble_eq_true rfl) ?_
  refine W_if_ne (tgt := 12) d_190_5 (by decide) (fun h5 => ?_) (fun h5 => absurd h5 (fun q => bI_f q ha))
  refine W_iload_n d_190_12 rfl ?_
  refine W_callS d_190_13 o_190 k_7_244 (by omega) (x_139 (by omega)) rfl (Nat.le_of_ble_eq_true rfl) ?_
  refine W_if_eq (tgt := 28) d_190_16 (by decide) (fun h16 => ?_) (fun h16 => ?_)
  · refine W_ldcwI d_190_28 o_190 k_7_260 (v := (-1000007)) (by decide) ?_
    refine W_iret d_190_31 rt_190 rfl ?_
    exact ⟨rfl, rfl⟩
  · refine W_iload_n d_190_19 rfl ?_
    refine W_iconst d_190_20 (v := 0) (by decide) ?_
    refine W_iconst d_190_21 (v := 1) (by decide) ?_
    refine W_callS d_190_22 o_190 k_7_96 (by omega) x_135 rfl (Nat.le_of_ble_eq_true rfl) ?_
    refine W_if_ne (tgt := 32) d_190_25 (by decide) (fun h25 => ?_) (fun h25 => ?_)
    · exact (hb ⟨bI_t h16, bI_t h25⟩).elim
    · refine W_ldcwI d_190_28 o_190 k_7_260 (v := (-1000007)) (by decide) ?_
      refine W_iret d_190_31 rt_190 rfl ?_
      exact ⟨rfl, rfl⟩
theorem lq_191 {d : Nat} {g : mG} {N : Nat} {P : Nat → mC} {Y0 : tR} {S0 : Nat → Int32} {R Lr : tR} {z : Nat → Nat} {n p t : Nat} (hX : MS Y0 S0 R Lr z n p t) (hW : WB n R) {m : Nat} (hm : m ≤ 48) {j : Nat} (hj : j < n) {w : Int32} (hd : 9 ≤ d) {Q : Option Value → mM → Prop} (kk : ∀ (Y : tR) (S : Nat → Int32) (be le : Int32) (a b c e : Value), (FRq Y0 S0 Y S ∧ bs (bst (-1, 2147483647) (hlF R Lr z n p m j) n) be le ∧ (be = -1 → le = -1)) → Wp d 191 191 [.ref 92, .int (nI j), .int (nI m), .int w, .int be, .int le, .int (nI n), a, b, c, e] [] (N, H3 g P (mm Y S)) Q) : ∀ (k i : Nat) (Y : tR) (S : Nat → Int32) (be le : Int32) (a b c e : Value), i + k = n → (FRq Y0 S0 Y S ∧ bs (bst (-1, 2147483647) (hlF R Lr z n p m j) i) be le ∧ (be = -1 → le = -1)) → Wp d 191 39 [.ref 92, .int (nI j), .int (nI m), .int w, .int be, .int le, .int (nI i), a, b, c, e] [] (N, H3 g P (mm Y S)) Q := by
  have hn12 := hX.2.2.1
  have hp6 := hX.2.2.2.2.1
  intro k
  induction k with
  | zero =>
    intro i Y S be le a b c e hi hI
    have ei : i = n := by omega
    have hXi := hX.q hI.1
    have hS0 := hXi.n0
    refine W_iload d_191_39 rfl ?_
    refine W_aload_n d_191_41 rfl (by decide) ?_
    refine W_getf d_191_42 o_191 k_7_93 rfl rfl ?_
    rw [hS0]
    refine W_icmp_ge (tgt := 191) d_191_45 (by decide) (fun h45 => ?_) (fun h45 => absurd (nI_le (a := n) (b := i) (by omega) (by omega)) h45)
    rw [ei] at hI ⊢
    exact kk _ _ _ _ _ _ _ _ hI
  | succ k ih =>
    intro i Y S be le a b c e hi hI
    have hXi := hX.q hI.1
    have hS0 := hXi.n0
    refine W_iload d_191_39 rfl ?_
    refine W_aload_n d_191_41 rfl (by decide) ?_
    refine W_getf d_191_42 o_191 k_7_93 rfl rfl ?_
    rw [hS0]
    refine W_icmp_ge (tgt := 191) d_191_45 (by decide) (fun h45 => absurd h45 (nI_ge (a := i) (b := n) (by omega) (by omega))) (fun h45 => ?_)
    refine W_iload d_191_48 rfl ?_
    refine W_iload_n d_191_50 rfl ?_
    refine W_icmp_eq (tgt := 185) d_191_51 (by decide) (fun h51 => ?_) (fun h51 => ?_)
    · have q51 : i = j := (nI_eq (a := i) (b := j) (by omega) (by omega)).mp h51
      refine W_iinc (v := 1) d_191_185 rfl (by decide) rfl ?_
      rw [show ((nI i + 1 : Int32)) = nI (i + 1) from nI_add i 1]
      refine W_goto (tgt := 39) d_191_188 (by decide) ?_
      exact ih (i + 1) _ _ _ _ _ _ _ _ (by omega) ⟨hI.1, bs_skip hI.2.1 (if_pos q51).symm, hI.2.2⟩
    · have q51 : ¬ i = j := mt (nI_eq (a := i) (b := j) (by omega) (by omega)).mpr h51
      refine W_aload_n d_191_54 rfl (by decide) ?_
      refine W_getf d_191_55 o_191 k_7_7 rfl rfl ?_
      refine W_iload d_191_58 rfl ?_
      refine W_mld (a := 0) d_191_60 rfl (by decide) (n := 12) rfl (vp_in_nI (by omega) (by decide)) (congrArg (Y 0) (nI_clamp (by omega))) ?_
      refine W_istore d_191_61 rfl ?_
      refine W_aload_n d_191_63 rfl (by decide) ?_
      refine W_getf d_191_64 o_191 k_7_13 rfl rfl ?_
      refine W_iload d_191_67 rfl ?_
      refine W_mld (a := 1) d_191_69 rfl (by decide) (n := 12) rfl (vp_in_nI (by omega) (by decide)) (congrArg (Y 1) (nI_clamp (by omega))) ?_
      refine W_istore d_191_70 rfl ?_
      refine W_aload_n d_191_72 rfl (by decide) ?_
      refine W_getf d_191_73 o_191 k_7_7 rfl rfl ?_
      refine W_iload d_191_76 rfl ?_
      refine W_aload_n d_191_78 rfl (by decide) ?_
      refine W_getf d_191_79 o_191 k_7_7 rfl rfl ?_
      refine W_iload_n d_191_82 rfl ?_
      refine W_mld (a := 0) d_191_83 rfl (by decide) (n := 12) rfl (vp_in_nI (by omega) (by decide)) (congrArg (Y 0) (nI_clamp (by omega))) ?_
      refine W_mst (a := 0) d_191_84 rfl (by decide) (n := 12) rfl (vp_in_nI (by omega) (by decide)) (nI_clamp (by omega)) ?_
      refine W_aload_n d_191_85 rfl (by decide) ?_
      refine W_getf d_191_86 o_191 k_7_13 rfl rfl ?_
      refine W_iload d_191_89 rfl ?_
      refine W_aload_n d_191_91 rfl (by decide) ?_
      refine W_getf d_191_92 o_191 k_7_13 rfl rfl ?_
      refine W_iload_n d_191_95 rfl ?_
      refine W_mld (a := 1) d_191_96 rfl (by decide) (n := 12) rfl (vp_in_nI (by omega) (by decide)) (congrArg (Y 1) (nI_clamp (by omega))) ?_
      refine W_mst (a := 1) d_191_97 rfl (by decide) (n := 12) rfl (vp_in_nI (by omega) (by decide)) (nI_clamp (by omega)) ?_
      refine W_aload_n d_191_98 rfl (by decide) ?_
      refine W_iload_n d_191_99 rfl ?_
      refine W_callVQ d_191_100 o_191 (Or.inl k_7_247) (by omega) (x_181 (set_lik (o := i) hj hXi) (m := m) (by omega) (by omega)) rfl (mrecv_of rfl o_181.symm) rfl (Nat.le_of_ble_eq_true rfl) ?_
      rintro _ _ ⟨rfl, Y1, S1, rfl, hF1, hG1⟩
      refine W_aload_n d_191_103 rfl (by decide) ?_
      refine W_getf d_191_104 o_191 k_7_7 rfl rfl ?_
      refine W_iload d_191_107 rfl ?_
      refine W_iload d_191_109 rfl ?_
      refine W_mst (a := 0) d_191_111 rfl (by decide) (n := 12) rfl (vp_in_nI (by omega) (by decide)) (nI_clamp (by omega)) ?_
      refine W_aload_n d_191_112 rfl (by decide) ?_
      refine W_getf d_191_113 o_191 k_7_13 rfl rfl ?_
      refine W_iload d_191_116 rfl ?_
      refine W_iload d_191_118 rfl ?_
      refine W_mst (a := 1) d_191_120 rfl (by decide) (n := 12) rfl (vp_in_nI (by omega) (by decide)) (nI_clamp (by omega)) ?_
      refine W_aload_n d_191_121 rfl (by decide) ?_
      refine W_getf d_191_122 o_191 k_7_71 rfl rfl ?_
      refine W_iload_n d_191_125 rfl ?_
      refine W_mld (a := 19) d_191_126 rfl (by decide) (n := 12) rfl (vp_in_nI (by omega) (by decide)) ((congrArg (Y1 19) (nI_clamp (by omega))).trans (hG1.1 j hj).1) ?_
      refine W_aload_n d_191_127 rfl (by decide) ?_
      refine W_getf d_191_128 o_191 k_7_71 rfl rfl ?_
      refine W_iload d_191_131 rfl ?_
      refine W_mld (a := 19) d_191_133 rfl (by decide) (n := 12) rfl (vp_in_nI (by omega) (by decide)) ((congrArg (Y1 19) (nI_clamp (by omega))).trans (hG1.1 i (by omega)).1) ?_
      refine W_iadd d_191_134 ?_
      refine W_istore d_191_135 rfl ?_
      refine W_iload d_191_137 rfl ?_
      refine W_iconst d_191_139 (v := (-1)) (by decide) ?_
      refine W_icmp_eq (tgt := 150) d_191_140 (by decide) (fun h140 => ?_) (fun h140 => ?_)
      · refine W_iconst d_191_150 (v := 1) (by decide) ?_
        refine W_goto (tgt := 155) d_191_151 (by decide) ?_
        refine W_istore d_191_155 rfl ?_
        refine W_iload d_191_157 rfl ?_
        refine W_if_eq (tgt := 167) d_191_159 (by decide) (fun h159 => absurd h159 (by decide)) (fun _ => ?_)
        refine W_iload d_191_162 rfl ?_
        refine W_goto (tgt := 169) d_191_164 (by decide) ?_
        refine W_istore d_191_169 rfl ?_
        refine W_iload d_191_171 rfl ?_
        refine W_if_eq (tgt := 181) d_191_173 (by decide) (fun h173 => absurd h173 (by decide)) (fun _ => ?_)
        refine W_iload d_191_176 rfl ?_
        refine W_goto (tgt := 183) d_191_178 (by decide) ?_
        refine W_istore d_191_183 rfl ?_
        refine W_iinc (v := 1) d_191_185 rfl (by decide) rfl ?_
        rw [show ((nI i + 1 : Int32)) = nI (i + 1) from nI_add i 1]
        refine W_goto (tgt := 39) d_191_188 (by decide) ?_
        have hFn : FRq Y0 S0 (u2 (u2 Y1 0 i (Y 0 i)) 1 i (Y 1 i)) S1 := FRc.q hI.1 (close_01 ((((FRc.refl (C := (fun a k => (a = 0 ∨ a = 1) ∧ k = i))).u (a := 0) (k := i) (v := Y 0 j) ⟨Or.inl rfl, rfl⟩ (by decide)).u (a := 1) (k := i) (v := Y 1 j) ⟨Or.inr rfl, rfl⟩ (by decide)).g hF1))
        have hv : gon (lik R j i) Lr z n p m 7 j + gon (lik R j i) Lr z n p m 7 i = (hlF R Lr z n p m j) i := (if_neg q51).symm
        exact ih (i + 1) _ _ _ _ _ _ _ _ (by omega) ⟨hFn, bs_new1 hI.2.1 h140 hv (by rw [hv]; exact hlF_lt hW hm hj (by omega) q51) (by omega), fun q => absurd q (nI_nm1 (by omega))⟩
      · refine W_iload d_191_143 rfl ?_
        refine W_iload d_191_145 rfl ?_
        refine W_icmp_ge (tgt := 154) d_191_147 (by decide) (fun h147 => ?_) (fun h147 => ?_)
        · refine W_iconst d_191_154 (v := 0) (by decide) ?_
          refine W_istore d_191_155 rfl ?_
          refine W_iload d_191_157 rfl ?_
          refine W_if_eq (tgt := 167) d_191_159 (by decide) (fun _ => ?_) (fun h159 => absurd h159 (by decide))
          refine W_iload d_191_167 rfl ?_
          refine W_istore d_191_169 rfl ?_
          refine W_iload d_191_171 rfl ?_
          refine W_if_eq (tgt := 181) d_191_173 (by decide) (fun _ => ?_) (fun h173 => absurd h173 (by decide))
          refine W_iload d_191_181 rfl ?_
          refine W_istore d_191_183 rfl ?_
          refine W_iinc (v := 1) d_191_185 rfl (by decide) rfl ?_
          rw [show ((nI i + 1 : Int32)) = nI (i + 1) from nI_add i 1]
          refine W_goto (tgt := 39) d_191_188 (by decide) ?_
          have hFn : FRq Y0 S0 (u2 (u2 Y1 0 i (Y 0 i)) 1 i (Y 1 i)) S1 := FRc.q hI.1 (close_01 ((((FRc.refl (C := (fun a k => (a = 0 ∨ a = 1) ∧ k = i))).u (a := 0) (k := i) (v := Y 0 j) ⟨Or.inl rfl, rfl⟩ (by decide)).u (a := 1) (k := i) (v := Y 1 j) ⟨Or.inr rfl, rfl⟩ (by decide)).g hF1))
          have hv : gon (lik R j i) Lr z n p m 7 j + gon (lik R j i) Lr z n p m 7 i = (hlF R Lr z n p m j) i := (if_neg q51).symm
          exact ih (i + 1) _ _ _ _ _ _ _ _ (by omega) ⟨hFn, bs_old hI.2.1 h140 hv (Int32.not_lt.mpr h147), fun q => absurd q h140⟩
        · refine W_iconst d_191_150 (v := 1) (by decide) ?_
          refine W_goto (tgt := 155) d_191_151 (by decide) ?_
          refine W_istore d_191_155 rfl ?_
          refine W_iload d_191_157 rfl ?_
          refine W_if_eq (tgt := 167) d_191_159 (by decide) (fun h159 => absurd h159 (by decide)) (fun _ => ?_)
          refine W_iload d_191_162 rfl ?_
          refine W_goto (tgt := 169) d_191_164 (by decide) ?_
          refine W_istore d_191_169 rfl ?_
          refine W_iload d_191_171 rfl ?_
          refine W_if_eq (tgt := 181) d_191_173 (by decide) (fun h173 => absurd h173 (by decide)) (fun _ => ?_)
          refine W_iload d_191_176 rfl ?_
          refine W_goto (tgt := 183) d_191_178 (by decide) ?_
          refine W_istore d_191_183 rfl ?_
          refine W_iinc (v := 1) d_191_185 rfl (by decide) rfl ?_
          rw [show ((nI i + 1 : Int32)) = nI (i + 1) from nI_add i 1]
          refine W_goto (tgt := 39) d_191_188 (by decide) ?_
          have hFn : FRq Y0 S0 (u2 (u2 Y1 0 i (Y 0 i)) 1 i (Y 1 i)) S1 := FRc.q hI.1 (close_01 ((((FRc.refl (C := (fun a k => (a = 0 ∨ a = 1) ∧ k = i))).u (a := 0) (k := i) (v := Y 0 j) ⟨Or.inl rfl, rfl⟩ (by decide)).u (a := 1) (k := i) (v := Y 1 j) ⟨Or.inr rfl, rfl⟩ (by decide)).g hF1))
          have hv : gon (lik R j i) Lr z n p m 7 j + gon (lik R j i) Lr z n p m 7 i = (hlF R Lr z n p m j) i := (if_neg q51).symm
          exact ih (i + 1) _ _ _ _ _ _ _ _ (by omega) ⟨hFn, bs_new2 hI.2.1 h140 hv (Int32.not_le.mp h147) (by omega), fun q => absurd q (nI_nm1 (by omega))⟩
theorem q_191 {d : Nat} {g : mG} {N : Nat} {P : Nat → mC} {Y : tR} {S : Nat → Int32} {R Lr : tR} {z : Nat → Nat} {n p t : Nat} (hX : MS Y S R Lr z n p t) (hW : WB n R) {m : Nat} (hm : m ≤ 48) {j : Nat} (hj : j < n) (h2 : 2 ≤ n) {w : Int32} (hw : 0 ≤ w ∧ w ≤ 1) (hd : 9 ≤ d) : Wp d 191 0 (ment 191 [.ref 92, .int (nI j), .int (nI m), .int w]) [] (N, H3 g P (mm Y S)) (fun v M' => v = some (.int (pk w (bst (-1, 2147483647) (hlF R Lr z n p m j) n))) ∧ ∃ Y' S', M' = (N, H3 g P (mm Y' S')) ∧ FRq Y S Y' S') := by
  have hn12 := hX.2.2.1
  have hp6 := hX.2.2.2.2.1
  have hS0 := hX.n0
  have hS5 := hX.p0
  show Wp _ 191 0 [.ref 92, .int (nI j), .int (nI m), .int w, .null, .null, .null, .null, .null, .null, .null] [] _ _
  refine W_aload_n d_191_0 rfl (by decide) ?_
  refine W_iload_n d_191_1 rfl ?_
  refine W_callV d_191_2 o_191 (Or.inl k_7_182) (by omega) (x_137 hS0 hn12 (by omega)) rfl (mrecv_of rfl o_137.symm) rfl (Nat.le_of_ble_eq_true rfl) ?_
  refine W_if_ne (tgt := 11) d_191_5 (by decide) (fun h5 => ?_) (fun h5 => absurd h5 (fun q => bI_f q ⟨nI_pos' (by omega), nI_lt hj (by omega)⟩))
  refine W_iload_n d_191_11 rfl ?_
  refine W_callS d_191_12 o_191 k_7_244 (by omega) (x_139 (by omega)) rfl (Nat.le_of_ble_eq_true rfl) ?_
  refine W_if_eq (tgt := 27) d_191_15 (by decide) (fun h15 => absurd h15 (fun q => bI_f q ⟨nI_pos' (by omega), nI_le (a := m) (b := 48) hm (by decide)⟩)) (fun h15 => ?_)
  refine W_iload_n d_191_18 rfl ?_
  refine W_iconst d_191_19 (v := 0) (by decide) ?_
  refine W_iconst d_191_20 (v := 1) (by decide) ?_
  refine W_callS d_191_21 o_191 k_7_96 (by omega) x_135 rfl (Nat.le_of_ble_eq_true rfl) ?_
  refine W_if_ne (tgt := 30) d_191_24 (by decide) (fun h24 => ?_) (fun h24 => absurd h24 (fun q => bI_f q hw))
  refine W_iconst d_191_30 (v := (-1)) (by decide) ?_
  refine W_istore d_191_31 rfl ?_
  refine W_iconst d_191_33 (v := (-1)) (by decide) ?_
  refine W_istore d_191_34 rfl ?_
  refine W_iconst d_191_36 (v := 0) (by decide) ?_
  refine W_istore d_191_37 rfl ?_
  refine lq_191 (Y0 := Y) (S0 := S) hX hW hm hj hd (fun Y1 S1 be le a b c e hI => ?_) n 0 _ _ _ _ _ _ _ _ (by omega) ⟨FRc.refl, Or.inl ⟨rfl, rfl⟩, fun _ => rfl⟩
  obtain ⟨k, hk, hkj⟩ : ∃ k, k < n ∧ ¬ k = j := by
    by_cases e : j = 0
    · exact ⟨1, by omega, by omega⟩
    · exact ⟨0, by omega, by omega⟩
  rw [bs_end hI.2.1 hk (hlF_lt hW hm hj hk hkj)]
  refine W_iload_n d_191_191 rfl ?_
  refine W_if_ne (tgt := 200) d_191_192 (by decide) (fun h192 => ?_) (fun h192 => ?_)
  · refine W_iload d_191_200 rfl ?_
    refine W_iret d_191_202 rt_191 rfl ?_
    exact ⟨congrArg (fun z => some (Value.int z)) (if_neg h192).symm, _, _, rfl, hI.1⟩
  · refine W_iload d_191_195 rfl ?_
    refine W_goto (tgt := 202) d_191_197 (by decide) ?_
    refine W_iret d_191_202 rt_191 rfl ?_
    exact ⟨congrArg (fun z => some (Value.int z)) (if_pos h192).symm, _, _, rfl, hI.1⟩
theorem q_191n {d : Nat} {g : mG} {N : Nat} {P : Nat → mC} {Y : tR} {S : Nat → Int32} {R Lr : tR} {z : Nat → Nat} {n p t : Nat} (hX : MS Y S R Lr z n p t) (hW : WB n R) {m : Nat} (hm : m ≤ 48) {j : Nat} (hj : j < n) (h2 : ¬ 2 ≤ n) {w : Int32} (hw : 0 ≤ w ∧ w ≤ 1) (hd : 9 ≤ d) : Wp d 191 0 (ment 191 [.ref 92, .int (nI j), .int (nI m), .int w]) [] (N, H3 g P (mm Y S)) (fun v M' => v = some (.int (-1)) ∧ ∃ Y' S', M' = (N, H3 g P (mm Y' S')) ∧ FRq Y S Y' S') := by
  have hn12 := hX.2.2.1
  have hp6 := hX.2.2.2.2.1
  have hS0 := hX.n0
  have hS5 := hX.p0
  show Wp _ 191 0 [.ref 92, .int (nI j), .int (nI m), .int w, .null, .null, .null, .null, .null, .null, .null] [] _ _
  refine W_aload_n d_191_0 rfl (by decide) ?_
  refine W_iload_n d_191_1 rfl ?_
  refine W_callV d_191_2 o_191 (Or.inl k_7_182) (by omega) (x_137 hS0 hn12 (by omega)) rfl (mrecv_of rfl o_137.symm) rfl (Nat.le_of_ble_eq_true rfl) ?_
  refine W_if_ne (tgt := 11) d_191_5 (by decide) (fun h5 => ?_) (fun h5 => absurd h5 (fun q => bI_f q ⟨nI_pos' (by omega), nI_lt hj (by omega)⟩))
  refine W_iload_n d_191_11 rfl ?_
  refine W_callS d_191_12 o_191 k_7_244 (by omega) (x_139 (by omega)) rfl (Nat.le_of_ble_eq_true rfl) ?_
  refine W_if_eq (tgt := 27) d_191_15 (by decide) (fun h15 => absurd h15 (fun q => bI_f q ⟨nI_pos' (by omega), nI_le (a := m) (b := 48) hm (by decide)⟩)) (fun h15 => ?_)
  refine W_iload_n d_191_18 rfl ?_
  refine W_iconst d_191_19 (v := 0) (by decide) ?_
  refine W_iconst d_191_20 (v := 1) (by decide) ?_
  refine W_callS d_191_21 o_191 k_7_96 (by omega) x_135 rfl (Nat.le_of_ble_eq_true rfl) ?_
  refine W_if_ne (tgt := 30) d_191_24 (by decide) (fun h24 => ?_) (fun h24 => absurd h24 (fun q => bI_f q hw))
  refine W_iconst d_191_30 (v := (-1)) (by decide) ?_
  refine W_istore d_191_31 rfl ?_
  refine W_iconst d_191_33 (v := (-1)) (by decide) ?_
  refine W_istore d_191_34 rfl ?_
  refine W_iconst d_191_36 (v := 0) (by decide) ?_
  refine W_istore d_191_37 rfl ?_
  refine lq_191 (Y0 := Y) (S0 := S) hX hW hm hj hd (fun Y1 S1 be le a b c e hI => ?_) n 0 _ _ _ _ _ _ _ _ (by omega) ⟨FRc.refl, Or.inl ⟨rfl, rfl⟩, fun _ => rfl⟩
  obtain rfl : n = 1 := by omega
  obtain rfl : j = 0 := by omega
  have hb : be = -1 := by
    rcases hI.2.1 with ⟨h, _⟩ | ⟨h, q⟩
    · exact h
    · rw [show bst (-1, 2147483647) (hlF R Lr z 1 p m 0) 1 = (-1, 2147483647) from (bst_f (if_pos rfl).symm (not_max _))] at q
      exact absurd (congrArg Prod.fst q).symm h
  have hl := hI.2.2 hb
  refine W_iload_n d_191_191 rfl ?_
  refine W_if_ne (tgt := 200) d_191_192 (by decide) (fun h192 => ?_) (fun h192 => ?_)
  · refine W_iload d_191_200 rfl ?_
    refine W_iret d_191_202 rt_191 rfl ?_
    exact ⟨congrArg (fun z => some (Value.int z)) (by assumption), _, _, rfl, hI.1⟩
  · refine W_iload d_191_195 rfl ?_
    refine W_goto (tgt := 202) d_191_197 (by decide) ?_
    refine W_iret d_191_202 rt_191 rfl ?_
    exact ⟨congrArg (fun z => some (Value.int z)) (by assumption), _, _, rfl, hI.1⟩
theorem q_191a {d : Nat} {g : mG} {N : Nat} {P : Nat → mC} {Y : tR} {S : Nat → Int32} {R Lr : tR} {z : Nat → Nat} {n p t : Nat} (hX : MS Y S R Lr z n p t) (hW : WB n R) {v w gw : Int32} (hb : ¬ (0 ≤ v ∧ v < nI n)) (hd : 3 ≤ d) : Ex d 191 [.ref 92, .int v, .int w, .int gw] (N, H3 g P (mm Y S)) (some (.int (-5))) (N, H3 g P (mm Y S)) := by
  have hn12 := hX.2.2.1
  have hp6 := hX.2.2.2.2.1
  have hS0 := hX.n0
  have hS5 := hX.p0
  refine Ex.of ?_
  show Wp _ 191 0 [.ref 92, .int v, .int w, .int gw, .null, .null, .null, .null, .null, .null, .null] [] _ _
  refine W_aload_n d_191_0 rfl (by decide) ?_
  refine W_iload_n d_191_1 rfl ?_
  refine W_callV d_191_2 o_191 (Or.inl k_7_182) (by omega) (x_137 hS0 hn12 (by omega)) rfl (mrecv_of rfl o_137.symm) rfl (Nat.le_of_ble_eq_true rfl) ?_
  refine W_if_ne (tgt := 11) d_191_5 (by decide) (fun h5 => absurd (bI_ne.mpr hb) h5) (fun h5 => ?_)
  refine W_bipush d_191_8 (v := (-5)) (by decide) ?_
  refine W_iret d_191_10 rt_191 rfl ?_
  exact ⟨rfl, rfl⟩
theorem q_191b {d : Nat} {g : mG} {N : Nat} {P : Nat → mC} {Y : tR} {S : Nat → Int32} {R Lr : tR} {z : Nat → Nat} {n p t : Nat} (hX : MS Y S R Lr z n p t) (hW : WB n R) {v w gw : Int32} (ha : 0 ≤ v ∧ v < nI n) (hb : ¬ ((0 ≤ w ∧ w ≤ 48) ∧ 0 ≤ gw ∧ gw ≤ 1)) (hd : 3 ≤ d) : Ex d 191 [.ref 92, .int v, .int w, .int gw] (N, H3 g P (mm Y S)) (some (.int (-7))) (N, H3 g P (mm Y S)) := by
  have hn12 := hX.2.2.1
  have hp6 := hX.2.2.2.2.1
  have hS0 := hX.n0
  have hS5 := hX.p0
  refine Ex.of ?_
  show Wp _ 191 0 [.ref 92, .int v, .int w, .int gw, .null, .null, .null, .null, .null, .null, .null] [] _ _
  refine W_aload_n d_191_0 rfl (by decide) ?_
  refine W_iload_n d_191_1 rfl ?_
  refine W_callV d_191_2 o_191 (Or.inl k_7_182) (by omega) (x_137 hS0 hn12 (by omega)) rfl (mrecv_of rfl o_137.symm) rfl (Nat.le_of_ble_eq_true rfl) ?_
  refine W_if_ne (tgt := 11) d_191_5 (by decide) (fun h5 => ?_) (fun h5 => absurd h5 (fun q => bI_f q ha))
  refine W_iload_n d_191_11 rfl ?_
  refine W_callS d_191_12 o_191 k_7_244 (by omega) (x_139 (by omega)) rfl (Nat.le_of_ble_eq_true rfl) ?_
  refine W_if_eq (tgt := 27) d_191_15 (by decide) (fun h15 => ?_) (fun h15 => ?_)
  · refine W_bipush d_191_27 (v := (-7)) (by decide) ?_
    refine W_iret d_191_29 rt_191 rfl ?_
    exact ⟨rfl, rfl⟩
  · refine W_iload_n d_191_18 rfl ?_
    refine W_iconst d_191_19 (v := 0) (by decide) ?_
    refine W_iconst d_191_20 (v := 1) (by decide) ?_
    refine W_callS d_191_21 o_191 k_7_96 (by omega) x_135 rfl (Nat.le_of_ble_eq_true rfl) ?_
    refine W_if_ne (tgt := 30) d_191_24 (by decide) (fun h24 => ?_) (fun h24 => ?_)
    · exact (hb ⟨bI_t h15, bI_t h24⟩).elim
    · refine W_bipush d_191_27 (v := (-7)) (by decide) ?_
      refine W_iret d_191_29 rt_191 rfl ?_
      exact ⟨rfl, rfl⟩
