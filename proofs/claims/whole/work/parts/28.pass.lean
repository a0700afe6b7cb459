/-! THE MODEL: passBy, shovel, hourOf (wip/whole/gen28.py) -/
theorem wi_min {v h : Int32} (hv : 0 ≤ v) : i_wi v 0 h = i_min h v := by
  unfold i_wi i_min
  rw [if_neg (Int32.not_lt.mpr hv)]
  by_cases h1 : h < v
  · rw [if_pos h1, if_neg (by simp only [Int32.lt_iff_toInt_lt] at *; omega)]
  · rw [if_neg h1]
    by_cases h2 : v < h
    · rw [if_pos h2]
    · rw [if_neg h2]; exact Int32.toInt_inj.mp (by simp only [Int32.lt_iff_toInt_lt] at *; omega)
theorem min_comm (a b : Int32) : i_min a b = i_min b a := by
  unfold i_min
  by_cases h1 : b < a
  · rw [if_pos h1, if_neg (by simp only [Int32.lt_iff_toInt_lt] at *; omega)]
  · rw [if_neg h1]
    by_cases h2 : a < b
    · rw [if_pos h2]
    · rw [if_neg h2]; exact Int32.toInt_inj.mp (by simp only [Int32.lt_iff_toInt_lt] at *; omega)
theorem wi_min2 {v h : Int32} (hv : 0 ≤ v) : i_wi v 0 h = i_min v h := (wi_min hv).trans (min_comm _ _)
/-- the model as road r of A -/
def MR (Y : tR) (S : Nat → Int32) (A : Nat → tR) (r : Nat) (Lr : tR) (z : Nat → Nat) (n t : Nat) : Prop := MX Y S (A r) Lr z n t
theorem MX.fr {Y Y' : tR} {S S' : Nat → Int32} {R R' Lr : tR} {z : Nat → Nat} {n t : Nat} (h : MX Y S R Lr z n t) (hf : FRh Y S Y' S') (hq : EQ n (MA Y' S') R') (h0 : R' 12 0 = R 12 0) (h4 : R' 12 4 = R 12 4) (hb : ∀ j, j < n → R' 4 j = R 4 j) : MX Y' S' R' Lr z n t :=
  ⟨hq, h0.trans h.2.1, h.2.2.1, h4.trans h.2.2.2.1, h.2.2.2.2.1, h.2.2.2.2.2.1, hf.lm h.2.2.2.2.2.2.1, fun j hj => (hb j hj) ▸ h.2.2.2.2.2.2.2 j hj⟩
theorem lp_171 {d : Nat} {g : mG} {N : Nat} {P : Nat → mC} {Y0 : tR} {S0 : Nat → Int32} {r : Nat} {Lr : tR} {z : Nat → Nat} {n t : Nat} {s : Int32} (hd : 3 ≤ d) {Q : Option Value → mM → Prop} : ∀ (k i : Nat) (q : (Nat → tR) × Int32) (Y : tR) (S : Nat → Int32) (a b c : Value), i + k = 6 → MX Y S (q.1 r) Lr z n t → FRh Y0 S0 Y S → (∀ (Y2 : tR) (S2 : Nat → Int32) (a b c : Value), MX Y2 S2 ((plR Lr z r s k i q).1 r) Lr z n t → FRh Y0 S0 Y2 S2 → Wp d 171 177 [.ref 92, .int s, .int (plR Lr z r s k i q).2, .int (nI 6), a, b, c] [] (N, H3 g P (mm Y2 S2)) Q) → Wp d 171 4 [.ref 92, .int s, .int q.2, .int (nI i), a, b, c] [] (N, H3 g P (mm Y S)) Q := by
  intro k
  induction k with
  | zero =>
    intro i q Y S a b c hi hX hF kk
    have hi6 : i = 6 := by omega
    refine W_iload_n d_171_4 rfl ?_
    refine W_bipush d_171_5 (v := 6) (by decide) ?_
    refine W_icmp_ge (tgt := 177) d_171_7 (by decide) (fun h7 => ?_) (fun h7 => absurd (nI_le (a := 6) (b := i) (by omega) (by omega)) h7)
    subst hi6
    exact kk _ _ _ _ _ hX hF
  | succ k ih =>
    intro i q Y S a b c hi hX hF kk
    obtain ⟨hq, hn, hn12, hlw, ht, hL, hM, hB⟩ := hX
    have hX : MX Y S (q.1 r) Lr z n t := ⟨hq, hn, hn12, hlw, ht, hL, hM, hB⟩
    have hq1 : EQ n (MA (u2 Y 3 i 0) S) (u3 q.1 r 9 i 0 r) := meq_3 hq rfl
    have hn1 : u3 q.1 r 9 i 0 r 12 0 = nI n := by rw [u3_ap, if_neg (by omega), hn]
    have hS0 : S 0 = nI n := (hq.hi (a := 12) (b := 0) (by decide) (by decide) (by decide)).trans hn
    have e9 : Y 3 i = q.1 r 9 i := hq.hi (a := 9) (b := i) (by decide) (by decide) (by omega)
    have e34 : S 34 = u3 q.1 r 9 i 0 r 12 5 := hq1.hi (a := 12) (b := 5) (by decide) (by decide) (by decide)
    refine W_iload_n d_171_4 rfl ?_
    refine W_bipush d_171_5 (v := 6) (by decide) ?_
    refine W_icmp_ge (tgt := 177) d_171_7 (by decide) (fun h7 => absurd h7 (nI_ge (a := i) (b := 6) (by omega) (by omega))) (fun h7 => ?_)
    refine W_aload_n d_171_10 rfl (by decide) ?_
    refine W_getf d_171_11 o_171 k_7_19 rfl rfl ?_
    refine W_iload_n d_171_14 rfl ?_
    refine W_mld (a := 3) d_171_15 rfl (by decide) (n := 6) rfl (vp_in_nI (by omega) (by decide)) (congrArg _ (nI_clamp (by omega))) ?_
    refine W_iload_n d_171_16 rfl ?_
    refine W_iadd d_171_17 ?_
    refine W_callS d_171_18 o_171 k_7_197 (by omega) x_170 rfl (Nat.le_of_ble_eq_true rfl) ?_
    refine W_istore d_171_21 rfl ?_
    refine W_iconst d_171_23 (v := 2) (by decide) ?_
    refine W_iload_n d_171_24 rfl ?_
    refine W_imul d_171_25 ?_
    refine W_iload_n d_171_26 rfl ?_
    refine W_iadd d_171_27 ?_
    refine W_istore d_171_28 rfl ?_
    refine W_aload_n d_171_30 rfl (by decide) ?_
    refine W_getf d_171_31 o_171 k_7_19 rfl rfl ?_
    refine W_iload_n d_171_34 rfl ?_
    refine W_iconst d_171_35 (v := 0) (by decide) ?_
    refine W_mst (a := 3) d_171_36 rfl (by decide) (n := 6) rfl (vp_in_nI (by omega) (by decide)) (nI_clamp (by omega)) ?_
    refine W_iconst d_171_37 (v := 0) (by decide) ?_
    refine W_istore_n d_171_38 rfl ?_
    refine W_aload_n d_171_39 rfl (by decide) ?_
    refine W_iload d_171_40 rfl ?_
    refine W_callV d_171_42 o_171 (Or.inl k_7_182) (by omega) (x_137 (show S 0 = nI n from hS0) hn12 (by omega)) rfl (mrecv_of rfl o_137.symm) rfl (Nat.le_of_ble_eq_true rfl) ?_
    refine W_if_ne (tgt := 62) d_171_45 (by decide) (fun h45 => ?_) (fun h45 => ?_)
    · have hin : 0 ≤ 2 * nI i + s ∧ 2 * nI i + s < u3 q.1 r 9 i 0 r 12 0 := by rw [hn1]; exact bI_t h45
      obtain ⟨j, hj, ej⟩ := own_ix (bI_t h45) hn12
      rw [ej]
      have b6 : u2 Y 3 i 0 2 (5 * j + 4) = u3 q.1 r 9 i 0 r 6 j := hq1.lo (a := 6) (b := j) (by decide) hj
      have b2 : Y 2 (5 * j) = u3 q.1 r 9 i 0 r 2 j := hq1.lo (a := 2) (b := j) (by decide) hj
      have b4 : Y 2 (5 * j + 2) = u3 q.1 r 9 i 0 r 4 j := hq1.lo (a := 4) (b := j) (by decide) hj
      have hb4 : 0 ≤ Y 2 (5 * j + 2) := by rw [b4, u3_ap, if_neg (by omega)]; exact hB j hj
      have e9' : q.1 r 9 i = Y 3 i := e9.symm
      refine W_aload_n d_171_62 rfl (by decide) ?_
      refine W_getf d_171_63 o_171 k_7_16 rfl rfl ?_
      refine W_iconst d_171_66 (v := 5) (by decide) ?_
      refine W_iload d_171_67 rfl ?_
      refine W_imul d_171_69 ?_
      rw [show ((5 * nI j : Int32)) = nI (5 * j) from pk_mul 5 j]
      refine W_iconst d_171_70 (v := 4) (by decide) ?_
      refine W_iadd d_171_71 ?_
      rw [show ((nI (5 * j) + 4 : Int32)) = nI (5 * j + 4) from nI_add (5 * j) 4]
      refine W_mld (a := 2) d_171_72 rfl (by decide) (n := 60) rfl (vp_in_nI (by omega) (by decide)) (congrArg _ (nI_clamp (by omega))) ?_
      refine W_iconst d_171_73 (v := 1) (by decide) ?_
      refine W_icmp_ne (tgt := 114) d_171_74 (by decide) (fun h74 => ?_) (fun h74 => ?_)
      · have h6 : ¬ u3 q.1 r 9 i 0 r 6 j = 1 := fun q2 => h74 (b6.trans q2)
        refine W_aload_n d_171_114 rfl (by decide) ?_
        refine W_getf d_171_115 o_171 k_7_16 rfl rfl ?_
        refine W_iconst d_171_118 (v := 5) (by decide) ?_
        refine W_iload d_171_119 rfl ?_
        refine W_imul d_171_121 ?_
        rw [show ((5 * nI j : Int32)) = nI (5 * j) from pk_mul 5 j]
        refine W_iconst d_171_122 (v := 2) (by decide) ?_
        refine W_iadd d_171_123 ?_
        rw [show ((nI (5 * j) + 2 : Int32)) = nI (5 * j + 2) from nI_add (5 * j) 2]
        refine W_mld (a := 2) d_171_124 rfl (by decide) (n := 60) rfl (vp_in_nI (by omega) (by decide)) ((congrArg (Y 2) (nI_clamp (by omega)))) ?_
        refine W_iconst d_171_125 (v := 0) (by decide) ?_
        refine W_iload d_171_126 rfl ?_
        refine W_callS d_171_128 o_171 k_7_176 (by omega) x_136 rfl (Nat.le_of_ble_eq_true rfl) ?_
        rw [wi_min2 hb4]
        refine W_istore d_171_131 rfl ?_
        refine W_aload_n d_171_133 rfl (by decide) ?_
        refine W_dup d_171_134 rfl ?_
        refine W_getf d_171_135 o_171 k_7_199 rfl rfl ?_
        refine W_iload d_171_138 rfl ?_
        refine W_iadd d_171_140 ?_
        refine W_putf d_171_141 o_171 k_7_199 rfl (Nat.le_of_ble_eq_true rfl) rfl mm_s34 ?_
        refine W_aload_n d_171_144 rfl (by decide) ?_
        refine W_getf d_171_145 o_171 k_7_16 rfl rfl ?_
        refine W_iconst d_171_148 (v := 5) (by decide) ?_
        refine W_iload d_171_149 rfl ?_
        refine W_imul d_171_151 ?_
        rw [show ((5 * nI j : Int32)) = nI (5 * j) from pk_mul 5 j]
        refine W_aload_n d_171_152 rfl (by decide) ?_
        refine W_getf d_171_153 o_171 k_7_16 rfl rfl ?_
        refine W_iconst d_171_156 (v := 5) (by decide) ?_
        refine W_iload d_171_157 rfl ?_
        refine W_imul d_171_159 ?_
        rw [show ((5 * nI j : Int32)) = nI (5 * j) from pk_mul 5 j]
        refine W_mld (a := 2) d_171_160 rfl (by decide) (n := 60) rfl (vp_in_nI (by omega) (by decide)) ((congrArg (Y 2) (nI_clamp (by omega)))) ?_
        refine W_iload d_171_161 rfl ?_
        refine W_iadd d_171_163 ?_
        refine W_iload d_171_164 rfl ?_
        refine W_isub d_171_166 ?_
        refine W_callS d_171_167 o_171 k_7_197 (by omega) x_170 rfl (Nat.le_of_ble_eq_true rfl) ?_
        refine W_mst (a := 2) d_171_170 rfl (by decide) (n := 60) rfl (vp_in_nI (by omega) (by decide)) (nI_clamp (by omega)) ?_
        refine W_iinc (v := 1) d_171_171 rfl (by decide) rfl ?_
        rw [show ((nI i + 1 : Int32)) = nI (i + 1) from nI_add i 1]
        refine W_goto (tgt := 4) d_171_174 (by decide) ?_
        have e := plS_wall (Lr := Lr) (z := z) hin ej (by omega) h6
        rw [e9'] at e
        have hf : EQ n (MA (u2 (u2 Y 3 i 0) 2 (5 * j) (i_hd (Y 2 (5 * j) + (i_hd (Y 3 i + q.2)) - i_min (Y 2 (5 * j + 2)) (i_hd (Y 3 i + q.2))))) (va_up S 34 (S 34 + i_min (Y 2 (5 * j + 2)) (i_hd (Y 3 i + q.2))))) (u3 (u3 (u3 q.1 r 9 i 0) r 2 j (i_min 999 (u3 q.1 r 9 i 0 r 2 j + (i_min 999 (Y 3 i + q.2)) - i_min (u3 q.1 r 9 i 0 r 4 j) (i_min 999 (Y 3 i + q.2))))) r 12 5 (u3 q.1 r 9 i 0 r 12 5 + i_min (u3 q.1 r 9 i 0 r 4 j) (i_min 999 (Y 3 i + q.2))) r) := meq_s34 (meq_r0 hq1 (by simp only [i_hd_min, b2, b4])) (by simp only [i_hd_min, e34, b4])
        have hF1 : FRh Y S (u2 (u2 Y 3 i 0) 2 (5 * j) (i_hd (Y 2 (5 * j) + (i_hd (Y 3 i + q.2)) - i_min (Y 2 (5 * j + 2)) (i_hd (Y 3 i + q.2))))) (va_up S 34 (S 34 + i_min (Y 2 (5 * j + 2)) (i_hd (Y 3 i + q.2)))) := ((FRh.refl.u (by decide)).u (by decide)).s (by decide)
        have tt := fun a b c => ih (i + 1) (plS Lr z r s i q) _ _ a b c (by omega) (hX.fr hF1 (by rw [e]; exact hf) (by rw [plS_ap _ _ _ _ _ _ _ _ _ (by omega)]) (by rw [plS_ap _ _ _ _ _ _ _ _ _ (by omega)]) (fun j _ => by rw [plS_ap _ _ _ _ _ _ _ _ _ (by omega)])) (hF.trans hF1) kk
        rw [e] at tt
        exact tt _ _ _
      · have h6 : u3 q.1 r 9 i 0 r 6 j = 1 := b6.symm.trans h74
        refine W_aload_n d_171_77 rfl (by decide) ?_
        refine W_iconst d_171_78 (v := 2) (by decide) ?_
        refine W_iload d_171_79 rfl ?_
        refine W_iload d_171_81 rfl ?_
        refine W_callVQ d_171_83 o_171 (Or.inl k_7_185) (by omega) (x_158 (Y := u2 Y 3 i 0) (S := S) (R := u3 q.1 r 9 i 0 r) ⟨hq1, hn1, hn12, (by rw [u3_ap, if_neg (by omega)]; exact hlw), ht, hL, hM, (fun j hj => by rw [u3_ap, if_neg (by omega)]; exact hB j hj)⟩ (p := 2) (by decide) hj (by omega)) rfl (mrecv_of rfl o_158.symm) rfl (Nat.le_of_ble_eq_true rfl) ?_
        rintro _ _ ⟨rfl, Y1, rfl, hY1⟩
        refine W_iconst d_171_86 (v := 0) (by decide) ?_
        refine W_iload d_171_87 rfl ?_
        refine W_callS d_171_89 o_171 k_7_176 (by omega) x_136 rfl (Nat.le_of_ble_eq_true rfl) ?_
        rw [wi_min sq_rng.1]
        refine W_istore d_171_92 rfl ?_
        refine W_aload_n d_171_94 rfl (by decide) ?_
        refine W_dup d_171_95 rfl ?_
        refine W_getf d_171_96 o_171 k_7_199 rfl rfl ?_
        refine W_iload d_171_99 rfl ?_
        refine W_iadd d_171_101 ?_
        refine W_putf d_171_102 o_171 k_7_199 rfl (Nat.le_of_ble_eq_true rfl) rfl mm_s34 ?_
        refine W_iload d_171_105 rfl ?_
        refine W_iload d_171_107 rfl ?_
        refine W_isub d_171_109 ?_
        refine W_istore_n d_171_110 rfl ?_
        refine W_goto (tgt := 171) d_171_111 (by decide) ?_
        refine W_iinc (v := 1) d_171_171 rfl (by decide) rfl ?_
        rw [show ((nI i + 1 : Int32)) = nI (i + 1) from nI_add i 1]
        refine W_goto (tgt := 4) d_171_174 (by decide) ?_
        have e := plS_lift (Lr := Lr) (z := z) hin ej (by omega) h6
        rw [e9'] at e
        have hf : EQ n (MA Y1 (va_up S 34 (S 34 + i_min (i_hd (Y 3 i + q.2)) (sq (u3 q.1 r 9 i 0 r) Lr z 2 (nI j) (u3 q.1 r 9 i 0 r 1 j) (u3 q.1 r 9 i 0 r 3 j) (i_hd (Y 3 i + q.2)))))) (u3 (u3 q.1 r 9 i 0) r 12 5 (u3 q.1 r 9 i 0 r 12 5 + i_min (i_min 999 (Y 3 i + q.2)) (sq (u3 q.1 r 9 i 0 r) Lr z 2 (nI j) (u3 q.1 r 9 i 0 r 1 j) (u3 q.1 r 9 i 0 r 3 j) (i_min 999 (Y 3 i + q.2)))) r) := meq_s34 (meq_o hq1 hY1) (by simp only [i_hd_min, e34])
        have hF1 : FRh Y S Y1 (va_up S 34 (S 34 + i_min (i_hd (Y 3 i + q.2)) (sq (u3 q.1 r 9 i 0 r) Lr z 2 (nI j) (u3 q.1 r 9 i 0 r 1 j) (u3 q.1 r 9 i 0 r 3 j) (i_hd (Y 3 i + q.2))))) := ((FRh.refl.u (a := 3) (by decide)).trans (fr_o hY1)).s (by decide)
        have tt := fun a b c => ih (i + 1) (plS Lr z r s i q) _ _ a b c (by omega) (hX.fr hF1 (by rw [e]; exact hf) (by rw [plS_ap _ _ _ _ _ _ _ _ _ (by omega)]) (by rw [plS_ap _ _ _ _ _ _ _ _ _ (by omega)]) (fun j _ => by rw [plS_ap _ _ _ _ _ _ _ _ _ (by omega)])) (hF.trans hF1) kk
        rw [e] at tt
        simp only [← i_hd_min] at tt
        exact tt _ _ _
    · refine W_aload_n d_171_48 rfl (by decide) ?_
      refine W_dup d_171_49 rfl ?_
      refine W_getf d_171_50 o_171 k_7_199 rfl rfl ?_
      refine W_iload d_171_53 rfl ?_
      refine W_iadd d_171_55 ?_
      refine W_putf d_171_56 o_171 k_7_199 rfl (Nat.le_of_ble_eq_true rfl) rfl mm_s34 ?_
      refine W_goto (tgt := 171) d_171_59 (by decide) ?_
      refine W_iinc (v := 1) d_171_171 rfl (by decide) rfl ?_
      rw [show ((nI i + 1 : Int32)) = nI (i + 1) from nI_add i 1]
      refine W_goto (tgt := 4) d_171_174 (by decide) ?_
      have hno : ¬ (0 ≤ 2 * nI i + s ∧ 2 * nI i + s < u3 q.1 r 9 i 0 r 12 0) := by rw [hn1]; exact bI_f h45
      have e := plS_out (Lr := Lr) (z := z) hno
      have hf : EQ n (MA (u2 Y 3 i 0) (va_up S 34 (S 34 + i_hd (Y 3 i + q.2)))) (u3 (u3 q.1 r 9 i 0) r 12 5 (u3 q.1 r 9 i 0 r 12 5 + i_min 999 (q.1 r 9 i + q.2)) r) := meq_s34 hq1 (by rw [i_hd_min, e9, e34])
      have hF1 : FRh Y S (u2 Y 3 i 0) (va_up S 34 (S 34 + i_hd (Y 3 i + q.2))) := (FRh.refl.u (by decide)).s (by decide)
      have tt := fun a b c => ih (i + 1) (plS Lr z r s i q) _ _ a b c (by omega) (hX.fr hF1 (by rw [e]; exact hf) (by rw [plS_ap _ _ _ _ _ _ _ _ _ (by omega)]) (by rw [plS_ap _ _ _ _ _ _ _ _ _ (by omega)]) (fun j _ => by rw [plS_ap _ _ _ _ _ _ _ _ _ (by omega)])) (hF.trans hF1) kk
      rw [e] at tt
      exact tt _ _ _
theorem x_171 {d : Nat} {g : mG} {N : Nat} {P : Nat → mC} {Y : tR} {S : Nat → Int32} {A : Nat → tR} {r : Nat} {Lr : tR} {z : Nat → Nat} {n t : Nat} (hX : MX Y S (A r) Lr z n t) {s : Int32} (hd : 3 ≤ d) : Wp d 171 0 (ment 171 [.ref 92, .int s]) [] (N, H3 g P (mm Y S)) (fun v M' => v = none ∧ ∃ Y' S', M' = (N, H3 g P (mm Y' S')) ∧ FRh Y S Y' S' ∧ EQ n (MA Y' S') (plA A r Lr z s r)) := by
  show Wp _ 171 0 [.ref 92, .int s, .null, .null, .null, .null, .null] [] _ _
  refine W_iconst d_171_0 (v := 0) (by decide) ?_
  refine W_istore_n d_171_1 rfl ?_
  refine W_iconst d_171_2 (v := 0) (by decide) ?_
  refine W_istore_n d_171_3 rfl ?_
  refine lp_171 (r := r) (Lr := Lr) (z := z) (n := n) (t := t) (Y0 := Y) (S0 := S) hd 6 0 (A, 0) Y S _ _ _ (by omega) hX FRh.refl ?_
  intro Y2 S2 a b c hX2 hF2
  refine W_aload_n d_171_177 rfl (by decide) ?_
  refine W_dup d_171_178 rfl ?_
  refine W_getf d_171_179 o_171 k_7_199 rfl rfl ?_
  refine W_iload_n d_171_182 rfl ?_
  refine W_iadd d_171_183 ?_
  refine W_putf d_171_184 o_171 k_7_199 rfl (Nat.le_of_ble_eq_true rfl) rfl mm_s34 ?_
  refine W_ret d_171_187 rt_171 ?_
  refine ⟨rfl, _, _, rfl, hF2.s (by decide), ?_⟩
  show EQ n _ (u3 _ _ _ _ _ _)
  exact meq_s34 hX2.1 (by rw [show S2 34 = (plR Lr z r s 6 0 (A, 0)).1 r 12 5 from hX2.1.hi (a := 12) (b := 5) (by decide) (by decide) (by decide)])
theorem x_172 {d : Nat} {g : mG} {N : Nat} {P : Nat → mC} {Y : tR} {S : Nat → Int32} {A : Nat → tR} {r : Nat} {Lr : tR} {z : Nat → Nat} {n t : Nat} (hX : MX Y S (A r) Lr z n t) {j : Nat} (hj : j < n) (hd : 4 ≤ d) : Wp d 172 0 (ment 172 [.ref 92, .int (nI j)]) [] (N, H3 g P (mm Y S)) (fun v M' => v = none ∧ ∃ Y' S', M' = (N, H3 g P (mm Y' S')) ∧ FRh Y S Y' S' ∧ EQ n (MA Y' S') (shA A r j Lr z r)) := by
  obtain ⟨hq, hn, hn12, hlw, ht, hL, hM, hB⟩ := hX
  have m0 : Y 0 j = A r 0 j := hq.lo (a := 0) (b := j) (by decide) hj
  have m1 : Y 1 j = A r 1 j := hq.lo (a := 1) (b := j) (by decide) hj
  have m2 : Y 2 (5 * j) = A r 2 j := hq.lo (a := 2) (b := j) (by decide) hj
  have m3 : Y 2 (5 * j + 1) = A r 3 j := hq.lo (a := 3) (b := j) (by decide) hj
  have m5 : Y 2 (5 * j + 3) = A r 5 j := hq.lo (a := 5) (b := j) (by decide) hj
  have e8 : S 8 = A r 12 2 := hq.hi (a := 12) (b := 2) (by decide) (by decide) (by decide)
  have X0 : MX Y S (A r) Lr z n t := ⟨hq, hn, hn12, hlw, ht, hL, hM, hB⟩
  show Wp _ 172 0 [.ref 92, .int (nI j), .null] [] _ _
  refine W_aload_n d_172_0 rfl (by decide) ?_
  refine W_getf d_172_1 o_172 k_7_16 rfl rfl ?_
  refine W_iconst d_172_4 (v := 5) (by decide) ?_
  refine W_iload_n d_172_5 rfl ?_
  refine W_imul d_172_6 ?_
  rw [show ((5 * nI j : Int32)) = nI (5 * j) from pk_mul 5 j]
  refine W_mld (a := 2) d_172_7 rfl (by decide) (n := 60) rfl (vp_in_nI (by omega) (by decide)) ((congrArg (Y 2) (nI_clamp (by omega))).trans m2) ?_
  refine W_istore_n d_172_8 rfl ?_
  refine W_aload_n d_172_9 rfl (by decide) ?_
  refine W_getf d_172_10 o_172 k_7_71 rfl rfl ?_
  refine W_iload_n d_172_13 rfl ?_
  refine W_dup2 d_172_14 rfl rfl ?_
  refine W_mld (a := 19) d_172_15 rfl (by decide) (n := 12) rfl (vp_in_nI (by omega) (by decide)) ((congrArg (Y 19) (nI_clamp (by omega))).trans rfl) ?_
  refine W_aload_n d_172_16 rfl (by decide) ?_
  refine W_iload_n d_172_17 rfl ?_
  refine W_callVQ d_172_18 o_172 (Or.inl k_7_202) (by omega) (x_167 X0 hj (by omega)) rfl (mrecv_of rfl o_167.symm) rfl (Nat.le_of_ble_eq_true rfl) ?_
  rintro _ _ ⟨rfl, Y1, rfl, hY1⟩
  refine W_iadd d_172_21 ?_
  refine W_mst (a := 19) d_172_22 rfl (by decide) (n := 12) rfl (vp_in_nI (by omega) (by decide)) (nI_clamp (by omega)) ?_
  have hq2 : EQ n (MA (u2 Y1 19 j (Y 19 j + (otk (A r 0 j) (A r 1 j) (sq (A r) Lr z 1 (nI j) (A r 1 j) (A r 3 j) (A r 2 j))))) S) (sh1 A r j Lr z r) := meq_19 (meq_o hq hY1) (by rw [show Y 19 j = A r 7 j from hq.lo (a := 7) (b := j) (by decide) hj])
  have hF2 : FRh Y S (u2 Y1 19 j (Y 19 j + (otk (A r 0 j) (A r 1 j) (sq (A r) Lr z 1 (nI j) (A r 1 j) (A r 3 j) (A r 2 j))))) S := (fr_o hY1).u (by decide)
  have hX2 : MX (u2 Y1 19 j (Y 19 j + (otk (A r 0 j) (A r 1 j) (sq (A r) Lr z 1 (nI j) (A r 1 j) (A r 3 j) (A r 2 j))))) S (sh1 A r j Lr z r) Lr z n t := X0.fr hF2 hq2 (by rw [sh1, u3_ap, if_neg (by omega)]) (by rw [sh1, u3_ap, if_neg (by omega)]) (fun i _ => by rw [sh1, u3_ap, if_neg (by omega)])
  have b9 : Y1 3 (j / 2) = sh1 A r j Lr z r 9 (j / 2) := hq2.hi (a := 9) (b := j / 2) (by decide) (by decide) (by omega)
  have b3 : Y1 2 (5 * j + 1) = sh1 A r j Lr z r 3 j := hq2.lo (a := 3) (b := j) (by decide) hj
  have b2 : A r 2 j = sh1 A r j Lr z r 2 j := m2.symm.trans ((congrFun (hY1 2 (by decide)) (5 * j)).symm.trans (hq2.lo (a := 2) (b := j) (by decide) hj))
  refine W_aload_n d_172_23 rfl (by decide) ?_
  refine W_iload_n d_172_24 rfl ?_
  refine W_callVQ d_172_25 o_172 (Or.inl k_7_205) (by omega) (x_168 hX2 hj) rfl (mrecv_of rfl o_168.symm) rfl (Nat.le_of_ble_eq_true rfl) ?_
  rintro _ _ ⟨rfl, rfl⟩
  refine W_if_eq (tgt := 55) d_172_28 (by decide) (fun h28 => ?_) (fun h28 => ?_)
  · refine W_aload_n d_172_55 rfl (by decide) ?_
    refine W_getf d_172_56 o_172 k_7_16 rfl rfl ?_
    refine W_iconst d_172_59 (v := 5) (by decide) ?_
    refine W_iload_n d_172_60 rfl ?_
    refine W_imul d_172_61 ?_
    rw [show ((5 * nI j : Int32)) = nI (5 * j) from pk_mul 5 j]
    refine W_iconst d_172_62 (v := 1) (by decide) ?_
    refine W_iadd d_172_63 ?_
    rw [show ((nI (5 * j) + 1 : Int32)) = nI (5 * j + 1) from nI_add (5 * j) 1]
    refine W_aload_n d_172_64 rfl (by decide) ?_
    refine W_getf d_172_65 o_172 k_7_16 rfl rfl ?_
    refine W_iconst d_172_68 (v := 5) (by decide) ?_
    refine W_iload_n d_172_69 rfl ?_
    refine W_imul d_172_70 ?_
    rw [show ((5 * nI j : Int32)) = nI (5 * j) from pk_mul 5 j]
    refine W_iconst d_172_71 (v := 1) (by decide) ?_
    refine W_iadd d_172_72 ?_
    rw [show ((nI (5 * j) + 1 : Int32)) = nI (5 * j + 1) from nI_add (5 * j) 1]
    refine W_mld (a := 2) d_172_73 rfl (by decide) (n := 60) rfl (vp_in_nI (by omega) (by decide)) (congrArg (Y1 2) (nI_clamp (by omega))) ?_
    refine W_iload_n d_172_74 rfl ?_
    refine W_iadd d_172_75 ?_
    refine W_callS d_172_76 o_172 k_7_197 (by omega) x_170 rfl (Nat.le_of_ble_eq_true rfl) ?_
    refine W_mst (a := 2) d_172_79 rfl (by decide) (n := 60) rfl (vp_in_nI (by omega) (by decide)) (nI_clamp (by omega)) ?_
    refine W_aload_n d_172_80 rfl (by decide) ?_
    refine W_getf d_172_81 o_172 k_7_16 rfl rfl ?_
    refine W_iconst d_172_84 (v := 5) (by decide) ?_
    refine W_iload_n d_172_85 rfl ?_
    refine W_imul d_172_86 ?_
    rw [show ((5 * nI j : Int32)) = nI (5 * j) from pk_mul 5 j]
    refine W_iconst d_172_87 (v := 0) (by decide) ?_
    refine W_mst (a := 2) d_172_88 rfl (by decide) (n := 60) rfl (vp_in_nI (by omega) (by decide)) (nI_clamp (by omega)) ?_
    refine W_ret d_172_89 rt_172 ?_
    refine ⟨rfl, _, _, rfl, (hF2.u (by decide)).u (by decide), ?_⟩
    unfold shA
    rw [if_neg (otb_f h28)]
    exact meq_r0 (meq_r1 hq2 (by rw [i_hd_min, b3, b2])) rfl
  · refine W_aload_n d_172_31 rfl (by decide) ?_
    refine W_getf d_172_32 o_172 k_7_19 rfl rfl ?_
    refine W_iload_n d_172_35 rfl ?_
    refine W_iconst d_172_36 (v := 2) (by decide) ?_
    refine W_idiv d_172_37 (by decide) ?_
    rw [show ((nI j / 2 : Int32)) = nI (j / 2) from pk_div (a := j) (d := 2) (by omega) (by decide) (by decide)]
    refine W_aload_n d_172_38 rfl (by decide) ?_
    refine W_getf d_172_39 o_172 k_7_19 rfl rfl ?_
    refine W_iload_n d_172_42 rfl ?_
    refine W_iconst d_172_43 (v := 2) (by decide) ?_
    refine W_idiv d_172_44 (by decide) ?_
    rw [show ((nI j / 2 : Int32)) = nI (j / 2) from pk_div (a := j) (d := 2) (by omega) (by decide) (by decide)]
    refine W_mld (a := 3) d_172_45 rfl (by decide) (n := 6) rfl (vp_in_nI (by omega) (by decide)) (congrArg (Y1 3) (nI_clamp (by omega))) ?_
    refine W_iload_n d_172_46 rfl ?_
    refine W_iadd d_172_47 ?_
    refine W_callS d_172_48 o_172 k_7_197 (by omega) x_170 rfl (Nat.le_of_ble_eq_true rfl) ?_
    refine W_mst (a := 3) d_172_51 rfl (by decide) (n := 6) rfl (vp_in_nI (by omega) (by decide)) (nI_clamp (by omega)) ?_
    refine W_goto (tgt := 80) d_172_52 (by decide) ?_
    refine W_aload_n d_172_80 rfl (by decide) ?_
    refine W_getf d_172_81 o_172 k_7_16 rfl rfl ?_
    refine W_iconst d_172_84 (v := 5) (by decide) ?_
    refine W_iload_n d_172_85 rfl ?_
    refine W_imul d_172_86 ?_
    rw [show ((5 * nI j : Int32)) = nI (5 * j) from pk_mul 5 j]
    refine W_iconst d_172_87 (v := 0) (by decide) ?_
    refine W_mst (a := 2) d_172_88 rfl (by decide) (n := 60) rfl (vp_in_nI (by omega) (by decide)) (nI_clamp (by omega)) ?_
    refine W_ret d_172_89 rt_172 ?_
    refine ⟨rfl, _, _, rfl, (hF2.u (by decide)).u (by decide), ?_⟩
    unfold shA
    rw [if_pos (otb_t h28)]
    exact meq_r0 (meq_3 hq2 (by rw [i_hd_min, b9, b2])) rfl
