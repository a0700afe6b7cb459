/-! THE MODEL: what a text says (wip/whole/gen25.py) -/
/-- text t of the model is that law -/
def LM (Y : tR) (t : Nat) (Lr : tR) (z : Nat → Nat) : Prop := (∀ p, p ≤ 3 → Y 8 (4 * t + p) = nI (z p)) ∧ ∀ i, i < z 3 → Y 7 (200 * t + i) = cdm (Lr 0 i) ∧ -9 ≤ Lr 0 i
theorem LM.up {Y : tR} {t : Nat} {Lr : tR} {z : Nat → Nat} (h : LM Y t Lr z) {a : Nat} {f : Nat → Int32} (ha : ¬ (a = 7 ∨ a = 8)) : LM (va_up Y a f) t Lr z := by
  unfold LM at h ⊢
  rw [va_oth _ _ (show ¬ 8 = a by omega), va_oth _ _ (show ¬ 7 = a by omega)]
  exact h
theorem Lw_z {R : tR} {z : Nat → Nat} (h : Lw R z) {p : Nat} (hp : p < 3) : z p ≤ z (p + 1) ∧ z (p + 1) ≤ z 3 := by
  have a := h.2.1 0 (by decide)
  have b := h.2.1 1 (by decide)
  have c := h.2.1 2 (by decide)
  have e : p = 0 ∨ p = 1 ∨ p = 2 := by omega
  rcases e with rfl | rfl | rfl
  · exact ⟨a, Nat.le_trans b c⟩
  · exact ⟨b, c⟩
  · exact ⟨c, Nat.le_refl _⟩
theorem cdm_lit {s : Int32} (h0 : ¬ s < 0) (h1 : ¬ 10000 ≤ s) : ∃ c, c < 10000 ∧ s = nI c ∧ cdm s = nI (100000 + c) := by
  obtain ⟨c, _, rfl⟩ := nI_of h0
  have hc : c < 10000 := Nat.not_le.mp (fun q => h1 (nI_le (a := 10000) (b := c) q (by omega)))
  refine ⟨c, hc, rfl, ?_⟩
  unfold cdm
  rw [if_neg h0, if_neg h1]
  exact nI_add 100000 c
theorem cdm_neg {s : Int32} (h0 : s < 0) (h9 : -9 ≤ s) : ∃ c, 11 ≤ c ∧ c ≤ 19 ∧ cdm s = nI c ∧ (c = 13 ↔ s = -3) ∧ (c = 19 ↔ s = -9) := by
  have key : s = -1 ∨ s = -2 ∨ s = -3 ∨ s = -4 ∨ s = -5 ∨ s = -6 ∨ s = -7 ∨ s = -8 ∨ s = -9 := by
    simp only [← Int32.toInt_inj, Int32.lt_iff_toInt_lt, Int32.le_iff_toInt_le] at *
    have a0 : (0 : Int32).toInt = 0 := rfl
    have a1 : (-1 : Int32).toInt = -1 := rfl
    have a2 : (-2 : Int32).toInt = -2 := rfl
    have a3 : (-3 : Int32).toInt = -3 := rfl
    have a4 : (-4 : Int32).toInt = -4 := rfl
    have a5 : (-5 : Int32).toInt = -5 := rfl
    have a6 : (-6 : Int32).toInt = -6 := rfl
    have a7 : (-7 : Int32).toInt = -7 := rfl
    have a8 : (-8 : Int32).toInt = -8 := rfl
    have a9 : (-9 : Int32).toInt = -9 := rfl
    rw [a0] at h0; rw [a9] at h9
    rw [a1, a2, a3, a4, a5, a6, a7, a8, a9]
    omega
  rcases key with rfl | rfl | rfl | rfl | rfl | rfl | rfl | rfl | rfl
  · exact ⟨11, by decide, by decide, by decide, by decide, by decide⟩
  · exact ⟨12, by decide, by decide, by decide, by decide, by decide⟩
  · exact ⟨13, by decide, by decide, by decide, by decide, by decide⟩
  · exact ⟨14, by decide, by decide, by decide, by decide, by decide⟩
  · exact ⟨15, by decide, by decide, by decide, by decide, by decide⟩
  · exact ⟨16, by decide, by decide, by decide, by decide, by decide⟩
  · exact ⟨17, by decide, by decide, by decide, by decide, by decide⟩
  · exact ⟨18, by decide, by decide, by decide, by decide, by decide⟩
  · exact ⟨19, by decide, by decide, by decide, by decide, by decide⟩
theorem lp_156 {d : Nat} {g : mG} {N : Nat} {P : Nat → mC} {Y : tR} {S : Nat → Int32} {t : Nat} (ht : t < 6) (hr : S 15 = nI t) {F : Nat → Int32} (hF : ∀ m, m < 6 → Y 18 m = F m) {Lr : tR} {z : Nat → Nat} (hL : Lw Lr z) (hM : LM Y t Lr z) {p : Nat} (hp : p < 3) (hd : 1 ≤ d) {Q : Option Value → mM → Prop} : ∀ (k i h : Nat) (row Yr : Nat → Int32) (cv : Value), i + k = z (p + 1) → h ≤ i → sok (Lr 0) k i h = some 1 → (∀ j, j < h → Yr j = row j) → (∀ Yr2, Yr2 0 = (smr F (Lr 0) k i (row, h)).1 0 → ∀ cv2, Wp d 156 197 [.ref 92, .int (nI p), .int (nI 1), .int (nI (z (p + 1))), cv2] [] (N, H3 g P (mm (va_up Y 17 Yr2) S)) Q) → Wp d 156 16 [.ref 92, .int (nI p), .int (nI h), .int (nI i), cv] [] (N, H3 g P (mm (va_up Y 17 Yr) S)) Q := by
  have hz := Lw_z hL hp
  have h160 := hL.2.2.1
  intro k
  induction k with
  | zero =>
    intro i h row Yr cv hi hh hok hrw kk
    obtain rfl : h = 1 := by simpa [sok] using hok
    have ei : i = z (p + 1) := by omega
    refine W_iload_n d_156_16 rfl ?_
    refine W_aload_n d_156_17 rfl (by decide) ?_
    refine W_getf d_156_18 o_156 k_7_38 rfl rfl ?_
    refine W_iconst d_156_21 (v := 4) (by decide) ?_
    refine W_aload_n d_156_22 rfl (by decide) ?_
    refine W_getf d_156_23 o_156 k_7_109 rfl rfl ?_
    rw [hr]
    refine W_imul d_156_26 ?_
    rw [show ((4 * nI t : Int32)) = nI (4 * t) from pk_mul 4 t]
    refine W_iload_n d_156_27 rfl ?_
    refine W_iadd d_156_28 ?_
    rw [show ((nI (4 * t) + nI p : Int32)) = nI (4 * t + p) from nI_add (4 * t) p]
    refine W_iconst d_156_29 (v := 1) (by decide) ?_
    refine W_iadd d_156_30 ?_
    rw [show ((nI (4 * t + p) + 1 : Int32)) = nI (4 * t + p + 1) from nI_add (4 * t + p) 1]
    refine W_mld (a := 8) d_156_31 rfl (by decide) (n := 24) rfl (vp_in_nI (by omega) (by decide)) ((congrArg (Y 8) (nI_clamp (by omega))).trans (hM.1 (p + 1) (by omega))) ?_
    
    refine W_icmp_ge (tgt := 197) d_156_32 (by decide) (fun h32 => ?_) (fun h32 => absurd (nI_le (a := z (p + 1)) (b := i) (by omega) (by omega)) h32)
    rw [ei]
    exact kk _ (hrw 0 (by omega)) _
  | succ k ih =>
    intro i h row Yr cv hi hh hok hrw kk
    refine W_iload_n d_156_16 rfl ?_
    refine W_aload_n d_156_17 rfl (by decide) ?_
    refine W_getf d_156_18 o_156 k_7_38 rfl rfl ?_
    refine W_iconst d_156_21 (v := 4) (by decide) ?_
    refine W_aload_n d_156_22 rfl (by decide) ?_
    refine W_getf d_156_23 o_156 k_7_109 rfl rfl ?_
    rw [hr]
    refine W_imul d_156_26 ?_
    rw [show ((4 * nI t : Int32)) = nI (4 * t) from pk_mul 4 t]
    refine W_iload_n d_156_27 rfl ?_
    refine W_iadd d_156_28 ?_
    rw [show ((nI (4 * t) + nI p : Int32)) = nI (4 * t + p) from nI_add (4 * t) p]
    refine W_iconst d_156_29 (v := 1) (by decide) ?_
    refine W_iadd d_156_30 ?_
    rw [show ((nI (4 * t + p) + 1 : Int32)) = nI (4 * t + p + 1) from nI_add (4 * t + p) 1]
    refine W_mld (a := 8) d_156_31 rfl (by decide) (n := 24) rfl (vp_in_nI (by omega) (by decide)) ((congrArg (Y 8) (nI_clamp (by omega))).trans (hM.1 (p + 1) (by omega))) ?_
    
    refine W_icmp_ge (tgt := 197) d_156_32 (by decide) (fun h32 => absurd h32 (nI_ge (a := i) (b := z (p + 1)) (by omega) (by omega))) (fun h32 => ?_)
    refine W_aload_n d_156_35 rfl (by decide) ?_
    refine W_getf d_156_36 o_156 k_7_35 rfl rfl ?_
    refine W_sipush d_156_39 (v := 200) (by decide) ?_
    refine W_aload_n d_156_42 rfl (by decide) ?_
    refine W_getf d_156_43 o_156 k_7_109 rfl rfl ?_
    rw [hr]
    refine W_imul d_156_46 ?_
    rw [show ((200 * nI t : Int32)) = nI (200 * t) from pk_mul 200 t]
    refine W_iload_n d_156_47 rfl ?_
    refine W_iadd d_156_48 ?_
    rw [show ((nI (200 * t) + nI i : Int32)) = nI (200 * t + i) from nI_add (200 * t) i]
    refine W_mld (a := 7) d_156_49 rfl (by decide) (n := 1200) rfl (vp_in_nI (by omega) (by decide)) ((congrArg (Y 7) (nI_clamp (by omega))).trans (hM.2 i (by omega)).1) ?_
    refine W_istore d_156_50 rfl ?_
    by_cases h0 : Lr 0 i < 0
    · by_cases h1 : Lr 0 i = -3 ∨ Lr 0 i = -9
      · obtain ⟨q1, q2⟩ := sok_un h0 h1 hok
        rcases h1 with h3 | h3
        · have h1 : Lr 0 i = -3 ∨ Lr 0 i = -9 := Or.inl h3
          rw [show cdm (Lr 0 i) = 13 from by rw [h3]; rfl]
          refine W_iload d_156_52 rfl ?_
          refine W_ldcI d_156_54 o_156 k_7_158 (v := 100000) (by decide) ?_
          refine W_icmp_ge (tgt := 66) d_156_56 (by decide) (fun h56 => absurd h56 (by decide)) (fun _ => ?_)
          refine W_iload d_156_59 rfl ?_
          refine W_bipush d_156_61 (v := 11) (by decide) ?_
          refine W_icmp_ge (tgt := 100) d_156_63 (by decide) (fun _ => ?_) (fun h63 => absurd h63 (by decide))
          refine W_iload d_156_100 rfl ?_
          refine W_bipush d_156_102 (v := 13) (by decide) ?_
          refine W_icmp_ne (tgt := 134) d_156_104 (by decide) (fun h104 => absurd h104 (by decide)) (fun _ => ?_)
          refine W_aload_n d_156_107 rfl (by decide) ?_
          refine W_getf d_156_108 o_156 k_7_65 rfl rfl ?_
          refine W_iload_n d_156_111 rfl ?_
          refine W_iconst d_156_112 (v := 1) (by decide) ?_
          refine W_isub d_156_113 ?_
          rw [show ((nI h - 1 : Int32)) = nI (h - 1) from pk_sub (a := h) (b := 1) (by omega)]
          refine W_aload_n d_156_114 rfl (by decide) ?_
          refine W_getf d_156_115 o_156 k_7_65 rfl rfl ?_
          refine W_iload_n d_156_118 rfl ?_
          refine W_iconst d_156_119 (v := 1) (by decide) ?_
          refine W_isub d_156_120 ?_
          rw [show ((nI h - 1 : Int32)) = nI (h - 1) from pk_sub (a := h) (b := 1) (by omega)]
          refine W_mld (a := 17) d_156_121 rfl (by decide) (n := 200) rfl (vp_in_nI (by omega) (by decide)) (congrArg _ (nI_clamp (by omega))) ?_
          refine W_if_ne (tgt := 129) d_156_122 (by decide) (fun h122 => ?_) (fun h122 => ?_)
          · refine W_iconst d_156_129 (v := 0) (by decide) ?_
            refine W_mst (a := 17) d_156_130 rfl (by decide) (n := 200) rfl (vp_in_nI (by omega) (by decide)) (nI_clamp (by omega)) ?_
            refine W_goto (tgt := 191) d_156_131 (by decide) ?_
            refine W_iinc (v := 1) d_156_191 rfl (by decide) rfl ?_
            rw [show ((nI i + 1 : Int32)) = nI (i + 1) from nI_add i 1]
            refine W_goto (tgt := 16) d_156_194 (by decide) ?_
            rw [u2_va]
            refine ih (i + 1) _ (va_up row (h - 1) 0) _ _ (by omega) (by omega) (by exact q2) (fun j hj => by
              by_cases e : j = h - 1
              · subst e
                refine (va_same _ _ _).trans (Eq.trans ?_ (va_same _ _ _).symm)
                rfl
              · rw [va_oth _ _ e, va_oth _ _ e]
                exact hrw j (by omega)) ?_
            intro Yr2 h2
            refine kk Yr2 (h2.trans ?_)
            show _ = (smr F (Lr 0) k (i + 1) (sm1 F (Lr 0 i) (row, h))).1 0
            rw [sm1_un h0 h1 (v := 0) (by rw [h3]; unfold i_un; rw [if_neg (by decide), ← hrw (h - 1) (by omega)]; exact if_neg h122)]
          · refine W_iconst d_156_125 (v := 1) (by decide) ?_
            refine W_goto (tgt := 130) d_156_126 (by decide) ?_
            refine W_mst (a := 17) d_156_130 rfl (by decide) (n := 200) rfl (vp_in_nI (by omega) (by decide)) (nI_clamp (by omega)) ?_
            refine W_goto (tgt := 191) d_156_131 (by decide) ?_
            refine W_iinc (v := 1) d_156_191 rfl (by decide) rfl ?_
            rw [show ((nI i + 1 : Int32)) = nI (i + 1) from nI_add i 1]
            refine W_goto (tgt := 16) d_156_194 (by decide) ?_
            rw [u2_va]
            refine ih (i + 1) _ (va_up row (h - 1) 1) _ _ (by omega) (by omega) (by exact q2) (fun j hj => by
              by_cases e : j = h - 1
              · subst e
                refine (va_same _ _ _).trans (Eq.trans ?_ (va_same _ _ _).symm)
                rfl
              · rw [va_oth _ _ e, va_oth _ _ e]
                exact hrw j (by omega)) ?_
            intro Yr2 h2
            refine kk Yr2 (h2.trans ?_)
            show _ = (smr F (Lr 0) k (i + 1) (sm1 F (Lr 0 i) (row, h))).1 0
            rw [sm1_un h0 h1 (v := 1) (by rw [h3]; unfold i_un; rw [if_neg (by decide), ← hrw (h - 1) (by omega)]; exact if_pos h122)]
        · have h1 : Lr 0 i = -3 ∨ Lr 0 i = -9 := Or.inr h3
          rw [show cdm (Lr 0 i) = 19 from by rw [h3]; rfl]
          refine W_iload d_156_52 rfl ?_
          refine W_ldcI d_156_54 o_156 k_7_158 (v := 100000) (by decide) ?_
          refine W_icmp_ge (tgt := 66) d_156_56 (by decide) (fun h56 => absurd h56 (by decide)) (fun _ => ?_)
          refine W_iload d_156_59 rfl ?_
          refine W_bipush d_156_61 (v := 11) (by decide) ?_
          refine W_icmp_ge (tgt := 100) d_156_63 (by decide) (fun _ => ?_) (fun h63 => absurd h63 (by decide))
          refine W_iload d_156_100 rfl ?_
          refine W_bipush d_156_102 (v := 13) (by decide) ?_
          refine W_icmp_ne (tgt := 134) d_156_104 (by decide) (fun _ => ?_) (fun h104 => absurd h104 (by decide))
          refine W_iload d_156_134 rfl ?_
          refine W_bipush d_156_136 (v := 19) (by decide) ?_
          refine W_icmp_ne (tgt := 161) d_156_138 (by decide) (fun h138 => absurd h138 (by decide)) (fun _ => ?_)
          refine W_aload_n d_156_141 rfl (by decide) ?_
          refine W_getf d_156_142 o_156 k_7_65 rfl rfl ?_
          refine W_iload_n d_156_145 rfl ?_
          refine W_iconst d_156_146 (v := 1) (by decide) ?_
          refine W_isub d_156_147 ?_
          rw [show ((nI h - 1 : Int32)) = nI (h - 1) from pk_sub (a := h) (b := 1) (by omega)]
          refine W_aload_n d_156_148 rfl (by decide) ?_
          refine W_getf d_156_149 o_156 k_7_65 rfl rfl ?_
          refine W_iload_n d_156_152 rfl ?_
          refine W_iconst d_156_153 (v := 1) (by decide) ?_
          refine W_isub d_156_154 ?_
          rw [show ((nI h - 1 : Int32)) = nI (h - 1) from pk_sub (a := h) (b := 1) (by omega)]
          refine W_mld (a := 17) d_156_155 rfl (by decide) (n := 200) rfl (vp_in_nI (by omega) (by decide)) (congrArg _ (nI_clamp (by omega))) ?_
          refine W_ineg d_156_156 ?_
          refine W_mst (a := 17) d_156_157 rfl (by decide) (n := 200) rfl (vp_in_nI (by omega) (by decide)) (nI_clamp (by omega)) ?_
          refine W_goto (tgt := 191) d_156_158 (by decide) ?_
          refine W_iinc (v := 1) d_156_191 rfl (by decide) rfl ?_
          rw [show ((nI i + 1 : Int32)) = nI (i + 1) from nI_add i 1]
          refine W_goto (tgt := 16) d_156_194 (by decide) ?_
          rw [u2_va]
          refine ih (i + 1) _ (va_up row (h - 1) (- row (h - 1))) _ _ (by omega) (by omega) (by exact q2) (fun j hj => by
            by_cases e : j = h - 1
            · subst e
              refine (va_same _ _ _).trans (Eq.trans ?_ (va_same _ _ _).symm)
              show -Yr (h - 1) = _
              rw [hrw (h - 1) (by omega)]
            · rw [va_oth _ _ e, va_oth _ _ e]
              exact hrw j (by omega)) ?_
          intro Yr2 h2
          refine kk Yr2 (h2.trans ?_)
          show _ = (smr F (Lr 0) k (i + 1) (sm1 F (Lr 0 i) (row, h))).1 0
          rw [sm1_un h0 h1 (v := (- row (h - 1))) (by rw [h3]; rfl)]
      · obtain ⟨q1, q2⟩ := sok_bin h0 h1 hok
        obtain ⟨c, c1, c2, c3, c4, c5⟩ := cdm_neg h0 (hM.2 i (by omega)).2
        have c6 : ¬ c = 13 := fun e => h1 (Or.inl (c4.mp e))
        have c7 : ¬ c = 19 := fun e => h1 (Or.inr (c5.mp e))
        have ec : nI c = 10 - Lr 0 i := by rw [← c3]; exact if_pos h0
        rw [c3]
        refine W_iload d_156_52 rfl ?_
        refine W_ldcI d_156_54 o_156 k_7_158 (v := 100000) (by decide) ?_
        refine W_icmp_ge (tgt := 66) d_156_56 (by decide) (fun h56 => absurd h56 (nI_ge (a := c) (b := 100000) (by omega) (by omega))) (fun h56 => ?_)
        refine W_iload d_156_59 rfl ?_
        refine W_bipush d_156_61 (v := 11) (by decide) ?_
        refine W_icmp_ge (tgt := 100) d_156_63 (by decide) (fun h63 => ?_) (fun h63 => absurd (nI_le (a := 11) (b := c) (by omega) (by omega)) h63)
        refine W_iload d_156_100 rfl ?_
        refine W_bipush d_156_102 (v := 13) (by decide) ?_
        refine W_icmp_ne (tgt := 134) d_156_104 (by decide) (fun h104 => ?_) (fun h104 => absurd h104 (fun q => absurd ((nI_eq (a := c) (b := 13) (by omega) (by omega)).mp q) (show ¬ c = 13 by omega)))
        refine W_iload d_156_134 rfl ?_
        refine W_bipush d_156_136 (v := 19) (by decide) ?_
        refine W_icmp_ne (tgt := 161) d_156_138 (by decide) (fun h138 => ?_) (fun h138 => absurd h138 (fun q => absurd ((nI_eq (a := c) (b := 19) (by omega) (by omega)).mp q) (show ¬ c = 19 by omega)))
        refine W_iinc (v := (-1)) d_156_161 rfl (by decide) rfl ?_
        rw [show ((nI h + (-1) : Int32)) = nI (h - 1) from nI_m1 (by omega)]
        refine W_aload_n d_156_164 rfl (by decide) ?_
        refine W_getf d_156_165 o_156 k_7_65 rfl rfl ?_
        refine W_iload_n d_156_168 rfl ?_
        refine W_iconst d_156_169 (v := 1) (by decide) ?_
        refine W_isub d_156_170 ?_
        rw [show ((nI (h - 1) - 1 : Int32)) = nI ((h - 1) - 1) from pk_sub (a := h - 1) (b := 1) (by omega)]
        refine W_iload d_156_171 rfl ?_
        refine W_aload_n d_156_173 rfl (by decide) ?_
        refine W_getf d_156_174 o_156 k_7_65 rfl rfl ?_
        refine W_iload_n d_156_177 rfl ?_
        refine W_iconst d_156_178 (v := 1) (by decide) ?_
        refine W_isub d_156_179 ?_
        rw [show ((nI (h - 1) - 1 : Int32)) = nI ((h - 1) - 1) from pk_sub (a := h - 1) (b := 1) (by omega)]
        refine W_mld (a := 17) d_156_180 rfl (by decide) (n := 200) rfl (vp_in_nI (by omega) (by decide)) (congrArg _ (nI_clamp (by omega))) ?_
        refine W_aload_n d_156_181 rfl (by decide) ?_
        refine W_getf d_156_182 o_156 k_7_65 rfl rfl ?_
        refine W_iload_n d_156_185 rfl ?_
        refine W_mld (a := 17) d_156_186 rfl (by decide) (n := 200) rfl (vp_in_nI (by omega) (by decide)) (congrArg _ (nI_clamp (by omega))) ?_
        refine W_callS d_156_187 o_156 k_7_172 (by omega) x_155 rfl (Nat.le_of_ble_eq_true rfl) ?_
        refine W_mst (a := 17) d_156_190 rfl (by decide) (n := 200) rfl (vp_in_nI (by omega) (by decide)) (nI_clamp (by omega)) ?_
        rw [show h - 1 - 1 = h - 2 from rfl]
        refine W_iinc (v := 1) d_156_191 rfl (by decide) rfl ?_
        rw [show ((nI i + 1 : Int32)) = nI (i + 1) from nI_add i 1]
        refine W_goto (tgt := 16) d_156_194 (by decide) ?_
        rw [u2_va]
        refine ih (i + 1) _ (va_up row (h - 2) (ljn (row (h - 2)) (Lr 0 i) (row (h - 1)))) _ _ (by omega) (by omega) (by exact q2) (fun j hj => by
          by_cases e : j = h - 2
          · subst e
            refine (va_same _ _ _).trans (Eq.trans ?_ (va_same _ _ _).symm)
            show mtw (nI c) (Yr (h - 2)) (Yr (h - 1)) = _
            rw [ec, mtw_ljn h0 (hM.2 i (by omega)).2 h1, hrw (h - 2) (by omega), hrw (h - 1) (by omega)]
          · rw [va_oth _ _ e, va_oth _ _ e]
            exact hrw j (by omega)) ?_
        intro Yr2 h2
        refine kk Yr2 (h2.trans ?_)
        show _ = (smr F (Lr 0) k (i + 1) (sm1 F (Lr 0 i) (row, h))).1 0
        rw [sm1_bin h0 h1]
    · obtain ⟨q1, q2⟩ := sok_ge h0 hok
      by_cases h1 : 10000 ≤ Lr 0 i
      · obtain ⟨m, hm, em⟩ := fact_ix h1 q1
        have ec : cdm (Lr 0 i) = nI m := by unfold cdm; rw [if_neg h0, if_pos h1, em]
        rw [ec]
        refine W_iload d_156_52 rfl ?_
        refine W_ldcI d_156_54 o_156 k_7_158 (v := 100000) (by decide) ?_
        refine W_icmp_ge (tgt := 66) d_156_56 (by decide) (fun h56 => absurd h56 (nI_ge (a := m) (b := 100000) (by omega) (by omega))) (fun h56 => ?_)
        refine W_iload d_156_59 rfl ?_
        refine W_bipush d_156_61 (v := 11) (by decide) ?_
        refine W_icmp_ge (tgt := 100) d_156_63 (by decide) (fun h63 => absurd h63 (nI_ge (a := m) (b := 11) (by omega) (by omega))) (fun h63 => ?_)
        refine W_aload_n d_156_66 rfl (by decide) ?_
        refine W_getf d_156_67 o_156 k_7_65 rfl rfl ?_
        refine W_iload_n d_156_70 rfl ?_
        refine W_iload d_156_71 rfl ?_
        refine W_bipush d_156_73 (v := 11) (by decide) ?_
        refine W_icmp_ge (tgt := 88) d_156_75 (by decide) (fun h75 => absurd h75 (nI_ge (a := m) (b := 11) (by omega) (by omega))) (fun h75 => ?_)
        refine W_aload_n d_156_78 rfl (by decide) ?_
        refine W_getf d_156_79 o_156 k_7_68 rfl rfl ?_
        refine W_iload d_156_82 rfl ?_
        refine W_mld (a := 18) d_156_84 rfl (by decide) (n := 6) rfl (vp_in_nI (by omega) (by decide)) ((congrArg (Y 18) (nI_clamp (by omega))).trans (hF m hm)) ?_
        refine W_goto (tgt := 93) d_156_85 (by decide) ?_
        refine W_mst (a := 17) d_156_93 rfl (by decide) (n := 200) rfl (vp_in_nI (by omega) (by decide)) (nI_clamp (by omega)) ?_
        refine W_iinc (v := 1) d_156_94 rfl (by decide) rfl ?_
        rw [show ((nI h + 1 : Int32)) = nI (h + 1) from nI_add h 1]
        refine W_goto (tgt := 191) d_156_97 (by decide) ?_
        refine W_iinc (v := 1) d_156_191 rfl (by decide) rfl ?_
        rw [show ((nI i + 1 : Int32)) = nI (i + 1) from nI_add i 1]
        refine W_goto (tgt := 16) d_156_194 (by decide) ?_
        rw [u2_va]
        refine ih (i + 1) _ (va_up row h (F m)) _ _ (by omega) (by omega) (by exact q2) (fun j hj => by
          by_cases e : j = h
          · subst e
            refine (va_same _ _ _).trans (Eq.trans ?_ (va_same _ _ _).symm)
            rfl
          · rw [va_oth _ _ e, va_oth _ _ e]
            exact hrw j (by omega)) ?_
        intro Yr2 h2
        refine kk Yr2 (h2.trans ?_)
        show _ = (smr F (Lr 0) k (i + 1) (sm1 F (Lr 0 i) (row, h))).1 0
        rw [sm1_fact h0 h1 hm em]
      · obtain ⟨c, hc, ec, ed⟩ := cdm_lit h0 h1
        rw [ed]
        refine W_iload d_156_52 rfl ?_
        refine W_ldcI d_156_54 o_156 k_7_158 (v := 100000) (by decide) ?_
        refine W_icmp_ge (tgt := 66) d_156_56 (by decide) (fun h56 => ?_) (fun h56 => absurd (nI_le (a := 100000) (b := 100000 + c) (by omega) (by omega)) h56)
        refine W_aload_n d_156_66 rfl (by decide) ?_
        refine W_getf d_156_67 o_156 k_7_65 rfl rfl ?_
        refine W_iload_n d_156_70 rfl ?_
        refine W_iload d_156_71 rfl ?_
        refine W_bipush d_156_73 (v := 11) (by decide) ?_
        refine W_icmp_ge (tgt := 88) d_156_75 (by decide) (fun h75 => ?_) (fun h75 => absurd (nI_le (a := 11) (b := 100000 + c) (by omega) (by omega)) h75)
        refine W_iload d_156_88 rfl ?_
        refine W_ldcI d_156_90 o_156 k_7_158 (v := 100000) (by decide) ?_
        refine W_isub d_156_92 ?_
        rw [show (nI (100000 + c) - 100000 : Int32) = nI c from (pk_sub (a := 100000 + c) (b := 100000) (by omega)).trans (congrArg nI (Nat.add_sub_cancel_left _ _))]
        refine W_mst (a := 17) d_156_93 rfl (by decide) (n := 200) rfl (vp_in_nI (by omega) (by decide)) (nI_clamp (by omega)) ?_
        refine W_iinc (v := 1) d_156_94 rfl (by decide) rfl ?_
        rw [show ((nI h + 1 : Int32)) = nI (h + 1) from nI_add h 1]
        refine W_goto (tgt := 191) d_156_97 (by decide) ?_
        refine W_iinc (v := 1) d_156_191 rfl (by decide) rfl ?_
        rw [show ((nI i + 1 : Int32)) = nI (i + 1) from nI_add i 1]
        refine W_goto (tgt := 16) d_156_194 (by decide) ?_
        rw [u2_va]
        refine ih (i + 1) _ (va_up row h (nI c)) _ _ (by omega) (by omega) (by exact q2) (fun j hj => by
          by_cases e : j = h
          · subst e
            refine (va_same _ _ _).trans (Eq.trans ?_ (va_same _ _ _).symm)
            rfl
          · rw [va_oth _ _ e, va_oth _ _ e]
            exact hrw j (by omega)) ?_
        intro Yr2 h2
        refine kk Yr2 (h2.trans ?_)
        show _ = (smr F (Lr 0) k (i + 1) (sm1 F (Lr 0 i) (row, h))).1 0
        rw [sm1_lit h0 h1, ec]
theorem x_156 {d : Nat} {g : mG} {N : Nat} {P : Nat → mC} {Y : tR} {S : Nat → Int32} {t : Nat} (ht : t < 6) (hr : S 15 = nI t) {F : Nat → Int32} (hF : ∀ m, m < 6 → Y 18 m = F m) {Lr : tR} {z : Nat → Nat} (hL : Lw Lr z) (hM : LM Y t Lr z) {p : Nat} (hp : p < 3) (hd : 1 ≤ d) : Wp d 156 0 (ment 156 [.ref 92, .int (nI p)]) [] (N, H3 g P (mm Y S)) (fun v M' => v = some (.int ((smr F (Lr 0) (z (p + 1) - z p) (z p) (fun _ => 0, 0)).1 0)) ∧ ∃ Yr, M' = (N, H3 g P (mm (va_up Y 17 Yr) S))) := by
  have hz := Lw_z hL hp
  have h160 := hL.2.2.1
  show Wp _ 156 0 [.ref 92, .int (nI p), .null, .null, .null] [] _ _
  refine W_iconst d_156_0 (v := 0) (by decide) ?_
  refine W_istore_n d_156_1 rfl ?_
  refine W_aload_n d_156_2 rfl (by decide) ?_
  refine W_getf d_156_3 o_156 k_7_38 rfl rfl ?_
  refine W_iconst d_156_6 (v := 4) (by decide) ?_
  refine W_aload_n d_156_7 rfl (by decide) ?_
  refine W_getf d_156_8 o_156 k_7_109 rfl rfl ?_
  rw [hr]
  refine W_imul d_156_11 ?_
  rw [show ((4 * nI t : Int32)) = nI (4 * t) from pk_mul 4 t]
  refine W_iload_n d_156_12 rfl ?_
  refine W_iadd d_156_13 ?_
  rw [show ((nI (4 * t) + nI p : Int32)) = nI (4 * t + p) from nI_add (4 * t) p]
  refine W_mld (a := 8) d_156_14 rfl (by decide) (n := 24) rfl (vp_in_nI (by omega) (by decide)) ((congrArg (Y 8) (nI_clamp (by omega))).trans (hM.1 p (by omega))) ?_
  
  refine W_istore_n d_156_15 rfl ?_
  rw [← va_self Y 17]
  refine lp_156 ht hr hF hL hM hp hd (z (p + 1) - z p) (z p) 0 (fun _ => 0) _ _ (by omega) (by omega) (hL.2.2.2 p hp) (fun j hj => absurd hj (by omega)) ?_
  intro Yr2 h2 cv2
  refine W_aload_n d_156_197 rfl (by decide) ?_
  refine W_getf d_156_198 o_156 k_7_65 rfl rfl ?_
  refine W_iconst d_156_201 (v := 0) (by decide) ?_
  refine W_mld (a := 17) d_156_202 rfl (by decide) (n := 200) rfl (vp_in_nI (n := 0) (by decide) (by decide)) (congrArg _ (show (0 : Int32).toNatClampNeg = 0 from rfl)) ?_
  refine W_iret d_156_203 rt_156 rfl ?_
  exact ⟨congrArg (fun z => some (Value.int z)) h2, Yr2, by rw [va_self]⟩
