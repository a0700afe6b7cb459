/-! THE MODEL: hourOf (wip/whole/gen29.py) -/
theorem lp_173a {d : Nat} {g : mG} {N : Nat} {P : Nat → mC} {Y0 : tR} {S0 : Nat → Int32} {A : Nat → tR} {r : Nat} {Lr : tR} {z : Nat → Nat} {n t : Nat} (hX : MX Y0 S0 (A r) Lr z n t) {f : Int32} (hd : 1 ≤ d) {Q : Option Value → mM → Prop} (kk : ∀ (Y2 : tR) (S2 : Nat → Int32), EQ n (MA Y2 S2) (sfA A r f 6 r) → FRh Y0 S0 Y2 S2 → Wp d 173 39 [.ref 92, .int f, .int (nI 6)] [] (N, H3 g P (mm Y2 S2)) Q) : ∀ (k i : Nat) (Y : tR) (S : Nat → Int32), i + k = 6 → EQ n (MA Y S) (sfA A r f i r) → FRh Y0 S0 Y S → Wp d 173 10 [.ref 92, .int f, .int (nI i)] [] (N, H3 g P (mm Y S)) Q := by
  have hn12 := hX.2.2.1
  intro k
  induction k with
  | zero =>
    intro i Y S hi hq hF
    have ei : i = 6 := by omega
    refine W_iload_n d_173_10 rfl ?_
    refine W_bipush d_173_11 (v := 6) (by decide) ?_
    refine W_icmp_ge (tgt := 39) d_173_13 (by decide) (fun h13 => ?_) (fun h13 => absurd (nI_le (a := 6) (b := i) (by omega) (by omega)) h13)
    rw [ei] at hq ⊢
    exact kk _ _ hq hF
  | succ k ih =>
    intro i Y S hi hq hF
    refine W_iload_n d_173_10 rfl ?_
    refine W_bipush d_173_11 (v := 6) (by decide) ?_
    refine W_icmp_ge (tgt := 39) d_173_13 (by decide) (fun h13 => absurd h13 (nI_ge (a := i) (b := 6) (by omega) (by omega))) (fun h13 => ?_)
    refine W_aload_n d_173_16 rfl (by decide) ?_
    refine W_getf d_173_17 o_173 k_7_19 rfl rfl ?_
    refine W_iload_n d_173_20 rfl ?_
    refine W_aload_n d_173_21 rfl (by decide) ?_
    refine W_getf d_173_22 o_173 k_7_19 rfl rfl ?_
    refine W_iload_n d_173_25 rfl ?_
    refine W_mld (a := 3) d_173_26 rfl (by decide) (n := 6) rfl (vp_in_nI (by omega) (by decide)) (congrArg _ (nI_clamp (by omega))) ?_
    refine W_iload_n d_173_27 rfl ?_
    refine W_iadd d_173_28 ?_
    refine W_callS d_173_29 o_173 k_7_197 (by omega) x_170 rfl (Nat.le_of_ble_eq_true rfl) ?_
    refine W_mst (a := 3) d_173_32 rfl (by decide) (n := 6) rfl (vp_in_nI (by omega) (by decide)) (nI_clamp (by omega)) ?_
    refine W_iinc (v := 1) d_173_33 rfl (by decide) rfl ?_
    rw [show ((nI i + 1 : Int32)) = nI (i + 1) from nI_add i 1]
    refine W_goto (tgt := 10) d_173_36 (by decide) ?_
    refine ih (i + 1) _ _ (by omega) ?_ (hF.u (by decide))
    simp only [sfA]
    exact meq_3 hq (by rw [i_hd_min, show Y 3 i = _ from hq.hi (a := 9) (b := i) (by decide) (by decide) (by omega)])
theorem lp_173b {d : Nat} {g : mG} {N : Nat} {P : Nat → mC} {Y0 : tR} {S0 : Nat → Int32} {A : Nat → tR} {r : Nat} {Lr : tR} {z : Nat → Nat} {n t : Nat} (hX : MX Y0 S0 (A r) Lr z n t) {p : Nat} (hp : A r 12 1 = nI p) (hp6 : p ≤ 6) {f : Int32} (hd : 4 ≤ d) {Q : Option Value → mM → Prop} (kk : ∀ (Y2 : tR) (S2 : Nat → Int32), EQ n (MA Y2 S2) (psA A r Lr z p r) → FRh Y0 S0 Y2 S2 → Wp d 173 81 [.ref 92, .int f, .int (nI p)] [] (N, H3 g P (mm Y2 S2)) Q) : ∀ (k i : Nat) (Y : tR) (S : Nat → Int32), i + k = p → EQ n (MA Y S) (psA A r Lr z i r) → FRh Y0 S0 Y S → Wp d 173 41 [.ref 92, .int f, .int (nI i)] [] (N, H3 g P (mm Y S)) Q := by
  have hn12 := hX.2.2.1
  intro k
  induction k with
  | zero =>
    intro i Y S hi hq hF
    have ei : i = p := by omega
    have e5 : S 5 = nI p := (hq.hi (a := 12) (b := 1) (by decide) (by decide) (by decide)).trans ((psA_ap _ _ _ _ _ _ _ (by omega) _).trans hp)
    refine W_iload_n d_173_41 rfl ?_
    refine W_aload_n d_173_42 rfl (by decide) ?_
    refine W_getf d_173_43 o_173 k_7_100 rfl rfl ?_
    rw [e5]
    refine W_icmp_ge (tgt := 81) d_173_46 (by decide) (fun h46 => ?_) (fun h46 => absurd (nI_le (a := p) (b := i) (by omega) (by omega)) h46)
    rw [ei] at hq ⊢
    exact kk _ _ hq hF
  | succ k ih =>
    intro i Y S hi hq hF
    have e5 : S 5 = nI p := (hq.hi (a := 12) (b := 1) (by decide) (by decide) (by decide)).trans ((psA_ap _ _ _ _ _ _ _ (by omega) _).trans hp)
    have b10 : Y 4 i = psA A r Lr z i r 10 i := hq.hi (a := 10) (b := i) (by decide) (by decide) (by omega)
    have b11 : Y 5 i = psA A r Lr z i r 11 i := hq.hi (a := 11) (b := i) (by decide) (by decide) (by omega)
    have b2 : S 8 = psA A r Lr z i r 12 2 := hq.hi (a := 12) (b := 2) (by decide) (by decide) (by decide)
    refine W_iload_n d_173_41 rfl ?_
    refine W_aload_n d_173_42 rfl (by decide) ?_
    refine W_getf d_173_43 o_173 k_7_100 rfl rfl ?_
    rw [e5]
    refine W_icmp_ge (tgt := 81) d_173_46 (by decide) (fun h46 => absurd h46 (nI_ge (a := i) (b := p) (by omega) (by omega))) (fun h46 => ?_)
    refine W_aload_n d_173_49 rfl (by decide) ?_
    refine W_getf d_173_50 o_173 k_7_22 rfl rfl ?_
    refine W_iload_n d_173_53 rfl ?_
    refine W_mld (a := 4) d_173_54 rfl (by decide) (n := 6) rfl (vp_in_nI (by omega) (by decide)) (congrArg _ (nI_clamp (by omega))) ?_
    refine W_aload_n d_173_55 rfl (by decide) ?_
    refine W_getf d_173_56 o_173 k_7_103 rfl rfl ?_
    refine W_bipush d_173_59 (v := 24) (by decide) ?_
    refine W_irem d_173_61 (by decide) ?_
    refine W_icmp_ne (tgt := 75) d_173_62 (by decide) (fun h62 => ?_) (fun h62 => ?_)
    · refine W_iinc (v := 1) d_173_75 rfl (by decide) rfl ?_
      rw [show ((nI i + 1 : Int32)) = nI (i + 1) from nI_add i 1]
      refine W_goto (tgt := 41) d_173_78 (by decide) ?_
      refine ih (i + 1) _ _ (by omega) ?_ hF
      simp only [psA]
      rw [if_neg (fun q => h62 (by rw [b10, b2]; exact q))]
      exact hq
    · refine W_aload_n d_173_65 rfl (by decide) ?_
      refine W_aload_n d_173_66 rfl (by decide) ?_
      refine W_getf d_173_67 o_173 k_7_25 rfl rfl ?_
      refine W_iload_n d_173_70 rfl ?_
      refine W_mld (a := 5) d_173_71 rfl (by decide) (n := 6) rfl (vp_in_nI (by omega) (by decide)) (congrArg _ (nI_clamp (by omega))) ?_
      refine W_callVQ d_173_72 o_173 (Or.inl k_7_208) (by omega) (x_171 (A := psA A r Lr z i) (hX.fr hF hq (psA_ap _ _ _ _ _ _ _ (by omega) _) (psA_ap _ _ _ _ _ _ _ (by omega) _) (fun j _ => psA_ap _ _ _ _ _ _ _ (by omega) _)) (by omega)) rfl (mrecv_of rfl o_171.symm) rfl (Nat.le_of_ble_eq_true rfl) ?_
      rintro _ _ ⟨rfl, Y1, S1, rfl, hF1, hq1⟩
      refine W_iinc (v := 1) d_173_75 rfl (by decide) rfl ?_
      rw [show ((nI i + 1 : Int32)) = nI (i + 1) from nI_add i 1]
      refine W_goto (tgt := 41) d_173_78 (by decide) ?_
      refine ih (i + 1) _ _ (by omega) ?_ (hF.trans hF1)
      simp only [psA]
      rw [if_pos (by rw [← b10, ← b2]; exact h62), ← b11]
      exact hq1
theorem lp_173c {d : Nat} {g : mG} {N : Nat} {P : Nat → mC} {Y0 : tR} {S0 : Nat → Int32} {A : Nat → tR} {r : Nat} {Lr : tR} {z : Nat → Nat} {n t : Nat} (hX : MX Y0 S0 (A r) Lr z n t) {f : Int32} (hd : 5 ≤ d) {Q : Option Value → mM → Prop} (kk : ∀ (Y2 : tR) (S2 : Nat → Int32), EQ n (MA Y2 S2) (osA A r Lr z n r) → FRh Y0 S0 Y2 S2 → Wp d 173 121 [.ref 92, .int f, .int (nI n)] [] (N, H3 g P (mm Y2 S2)) Q) : ∀ (k i : Nat) (Y : tR) (S : Nat → Int32), i + k = n → EQ n (MA Y S) (osA A r Lr z i r) → FRh Y0 S0 Y S → Wp d 173 83 [.ref 92, .int f, .int (nI i)] [] (N, H3 g P (mm Y S)) Q := by
  have hn12 := hX.2.2.1
  intro k
  induction k with
  | zero =>
    intro i Y S hi hq hF
    have ei : i = n := by omega
    have e0 : S 0 = nI n := (hq.hi (a := 12) (b := 0) (by decide) (by decide) (by decide)).trans ((osA_ap _ _ _ _ _ _ _ (by omega) _).trans hX.2.1)
    refine W_iload_n d_173_83 rfl ?_
    refine W_aload_n d_173_84 rfl (by decide) ?_
    refine W_getf d_173_85 o_173 k_7_93 rfl rfl ?_
    rw [e0]
    refine W_icmp_ge (tgt := 121) d_173_88 (by decide) (fun h88 => ?_) (fun h88 => absurd (nI_le (a := n) (b := i) (by omega) (by omega)) h88)
    rw [ei] at hq ⊢
    exact kk _ _ hq hF
  | succ k ih =>
    intro i Y S hi hq hF
    have e0 : S 0 = nI n := (hq.hi (a := 12) (b := 0) (by decide) (by decide) (by decide)).trans ((osA_ap _ _ _ _ _ _ _ (by omega) _).trans hX.2.1)
    have b2 : Y 2 (5 * i) = osA A r Lr z i r 2 i := hq.lo (a := 2) (b := i) (by decide) (by omega)
    refine W_iload_n d_173_83 rfl ?_
    refine W_aload_n d_173_84 rfl (by decide) ?_
    refine W_getf d_173_85 o_173 k_7_93 rfl rfl ?_
    rw [e0]
    refine W_icmp_ge (tgt := 121) d_173_88 (by decide) (fun h88 => absurd h88 (nI_ge (a := i) (b := n) (by omega) (by omega))) (fun h88 => ?_)
    refine W_aload_n d_173_91 rfl (by decide) ?_
    refine W_getf d_173_92 o_173 k_7_16 rfl rfl ?_
    refine W_iconst d_173_95 (v := 5) (by decide) ?_
    refine W_iload_n d_173_96 rfl ?_
    refine W_imul d_173_97 ?_
    rw [show ((5 * nI i : Int32)) = nI (5 * i) from pk_mul 5 i]
    refine W_mld (a := 2) d_173_98 rfl (by decide) (n := 60) rfl (vp_in_nI (by omega) (by decide)) (congrArg _ (nI_clamp (by omega))) ?_
    refine W_if_eq (tgt := 115) d_173_99 (by decide) (fun h99 => ?_) (fun h99 => ?_)
    · refine W_iinc (v := 1) d_173_115 rfl (by decide) rfl ?_
      rw [show ((nI i + 1 : Int32)) = nI (i + 1) from nI_add i 1]
      refine W_goto (tgt := 83) d_173_118 (by decide) ?_
      refine ih (i + 1) _ _ (by omega) ?_ hF
      simp only [osA]
      rw [if_pos (b2.symm.trans h99)]
      exact hq
    · refine W_aload_n d_173_102 rfl (by decide) ?_
      refine W_iload_n d_173_103 rfl ?_
      refine W_callVQ d_173_104 o_173 (Or.inl k_7_211) (by omega) (x_169 (R := osA A r Lr z i r) (hX.fr hF hq (osA_ap _ _ _ _ _ _ _ (by omega) _) (osA_ap _ _ _ _ _ _ _ (by omega) _) (fun j _ => osA_ap _ _ _ _ _ _ _ (by omega) _)) (j := i) (by omega)) rfl (mrecv_of rfl o_169.symm) rfl (Nat.le_of_ble_eq_true rfl) ?_
      rintro _ _ ⟨rfl, rfl⟩
      refine W_if_eq (tgt := 115) d_173_107 (by decide) (fun h107 => ?_) (fun h107 => ?_)
      · refine W_iinc (v := 1) d_173_115 rfl (by decide) rfl ?_
        rw [show ((nI i + 1 : Int32)) = nI (i + 1) from nI_add i 1]
        refine W_goto (tgt := 83) d_173_118 (by decide) ?_
        refine ih (i + 1) _ _ (by omega) ?_ hF
        simp only [osA]
        rw [if_neg (fun q => h99 (b2.trans q)), if_neg (otb_f h107)]
        exact hq
      · refine W_aload_n d_173_110 rfl (by decide) ?_
        refine W_iload_n d_173_111 rfl ?_
        refine W_callVQ d_173_112 o_173 (Or.inl k_7_214) (by omega) (x_172 (A := osA A r Lr z i) (hX.fr hF hq (osA_ap _ _ _ _ _ _ _ (by omega) _) (osA_ap _ _ _ _ _ _ _ (by omega) _) (fun j _ => osA_ap _ _ _ _ _ _ _ (by omega) _)) (j := i) (by omega) (by omega)) rfl (mrecv_of rfl o_172.symm) rfl (Nat.le_of_ble_eq_true rfl) ?_
        rintro _ _ ⟨rfl, Y1, S1, rfl, hF1, hq1⟩
        refine W_iinc (v := 1) d_173_115 rfl (by decide) rfl ?_
        rw [show ((nI i + 1 : Int32)) = nI (i + 1) from nI_add i 1]
        refine W_goto (tgt := 83) d_173_118 (by decide) ?_
        refine ih (i + 1) _ _ (by omega) ?_ (hF.trans hF1)
        simp only [osA]
        rw [if_neg (fun q => h99 (b2.trans q)), if_pos (otb_t h107)]
        exact hq1
theorem lp_173d {d : Nat} {g : mG} {N : Nat} {P : Nat → mC} {Y0 : tR} {S0 : Nat → Int32} {A : Nat → tR} {r : Nat} {Lr : tR} {z : Nat → Nat} {n t : Nat} (hX : MX Y0 S0 (A r) Lr z n t) {f : Int32} (hd : 0 ≤ d) {Q : Option Value → mM → Prop} (kk : ∀ (Y2 : tR) (S2 : Nat → Int32), EQ n (MA Y2 S2) (blA A r n r) → FRh Y0 S0 Y2 S2 → Wp d 173 166 [.ref 92, .int f, .int (nI n)] [] (N, H3 g P (mm Y2 S2)) Q) : ∀ (k i : Nat) (Y : tR) (S : Nat → Int32), i + k = n → EQ n (MA Y S) (blA A r i r) → FRh Y0 S0 Y S → Wp d 173 123 [.ref 92, .int f, .int (nI i)] [] (N, H3 g P (mm Y S)) Q := by
  have hn12 := hX.2.2.1
  intro k
  induction k with
  | zero =>
    intro i Y S hi hq hF
    have ei : i = n := by omega
    have e0 : S 0 = nI n := (hq.hi (a := 12) (b := 0) (by decide) (by decide) (by decide)).trans ((blA_ap _ _ _ _ _ (by omega) _).trans hX.2.1)
    refine W_iload_n d_173_123 rfl ?_
    refine W_aload_n d_173_124 rfl (by decide) ?_
    refine W_getf d_173_125 o_173 k_7_93 rfl rfl ?_
    rw [e0]
    refine W_icmp_ge (tgt := 166) d_173_128 (by decide) (fun h128 => ?_) (fun h128 => absurd (nI_le (a := n) (b := i) (by omega) (by omega)) h128)
    rw [ei] at hq ⊢
    exact kk _ _ hq hF
  | succ k ih =>
    intro i Y S hi hq hF
    have e0 : S 0 = nI n := (hq.hi (a := 12) (b := 0) (by decide) (by decide) (by decide)).trans ((blA_ap _ _ _ _ _ (by omega) _).trans hX.2.1)
    have b2 : Y 2 (5 * i) = blA A r i r 2 i := hq.lo (a := 2) (b := i) (by decide) (by omega)
    have b3 : S 9 = blA A r i r 12 3 := hq.hi (a := 12) (b := 3) (by decide) (by decide) (by decide)
    refine W_iload_n d_173_123 rfl ?_
    refine W_aload_n d_173_124 rfl (by decide) ?_
    refine W_getf d_173_125 o_173 k_7_93 rfl rfl ?_
    rw [e0]
    refine W_icmp_ge (tgt := 166) d_173_128 (by decide) (fun h128 => absurd h128 (nI_ge (a := i) (b := n) (by omega) (by omega))) (fun h128 => ?_)
    refine W_aload_n d_173_131 rfl (by decide) ?_
    refine W_getf d_173_132 o_173 k_7_74 rfl rfl ?_
    refine W_iload_n d_173_135 rfl ?_
    refine W_dup2 d_173_136 rfl rfl ?_
    refine W_mld (a := 20) d_173_137 rfl (by decide) (n := 12) rfl (vp_in_nI (by omega) (by decide)) (congrArg _ (nI_clamp (by omega))) ?_
    refine W_aload_n d_173_138 rfl (by decide) ?_
    refine W_getf d_173_139 o_173 k_7_16 rfl rfl ?_
    refine W_iconst d_173_142 (v := 5) (by decide) ?_
    refine W_iload_n d_173_143 rfl ?_
    refine W_imul d_173_144 ?_
    rw [show ((5 * nI i : Int32)) = nI (5 * i) from pk_mul 5 i]
    refine W_mld (a := 2) d_173_145 rfl (by decide) (n := 60) rfl (vp_in_nI (by omega) (by decide)) (congrArg (Y 2) (nI_clamp (by omega))) ?_
    refine W_aload_n d_173_146 rfl (by decide) ?_
    refine W_getf d_173_147 o_173 k_7_28 rfl rfl ?_
    refine W_icmp_le (tgt := 157) d_173_150 (by decide) (fun h150 => ?_) (fun h150 => ?_)
    · refine W_iconst d_173_157 (v := 0) (by decide) ?_
      refine W_iadd d_173_158 ?_
      refine W_mst (a := 20) d_173_159 rfl (by decide) (n := 12) rfl (vp_in_nI (by omega) (by decide)) (nI_clamp (by omega)) ?_
      refine W_iinc (v := 1) d_173_160 rfl (by decide) rfl ?_
      rw [show ((nI i + 1 : Int32)) = nI (i + 1) from nI_add i 1]
      refine W_goto (tgt := 123) d_173_163 (by decide) ?_
      refine ih (i + 1) _ _ (by omega) ?_ (hF.u (by decide))
      simp only [blA]
      rw [if_pos (by rw [← b2, ← b3]; exact h150)]
      intro a b u
      have q := hq a b u
      rw [← q]
      have e : u2 Y 20 i (Y 20 i + 0) = Y := by
        rw [Int32.add_zero]
        unfold u2
        rw [va_self, va_self]
      rw [e]
    · refine W_iconst d_173_153 (v := 1) (by decide) ?_
      refine W_goto (tgt := 158) d_173_154 (by decide) ?_
      refine W_iadd d_173_158 ?_
      refine W_mst (a := 20) d_173_159 rfl (by decide) (n := 12) rfl (vp_in_nI (by omega) (by decide)) (nI_clamp (by omega)) ?_
      refine W_iinc (v := 1) d_173_160 rfl (by decide) rfl ?_
      rw [show ((nI i + 1 : Int32)) = nI (i + 1) from nI_add i 1]
      refine W_goto (tgt := 123) d_173_163 (by decide) ?_
      refine ih (i + 1) _ _ (by omega) ?_ (hF.u (by decide))
      simp only [blA]
      rw [if_neg (by rw [← b2, ← b3]; exact h150)]
      exact meq_20 hq (by rw [show Y 20 i = _ from hq.lo (a := 8) (b := i) (by decide) (by omega)])
theorem x_173 {d : Nat} {g : mG} {N : Nat} {P : Nat → mC} {Y : tR} {S : Nat → Int32} {A : Nat → tR} {r : Nat} {Lr : tR} {z : Nat → Nat} {n t : Nat} (hX : MX Y S (A r) Lr z n t) {p : Nat} (hp : A r 12 1 = nI p) (hp6 : p ≤ 6) (hd : 6 ≤ d) : Wp d 173 0 (ment 173 [.ref 92]) [] (N, H3 g P (mm Y S)) (fun v M' => v = none ∧ ∃ Y' S', M' = (N, H3 g P (mm Y' S')) ∧ FRh Y S Y' S' ∧ EQ n (MA Y' S') (hrA A r Lr z n p r)) := by
  have hn12 := hX.2.2.1
  show Wp _ 173 0 [.ref 92, .null, .null] [] _ _
  refine W_aload_n d_173_0 rfl (by decide) ?_
  refine W_iconst d_173_1 (v := 0) (by decide) ?_
  refine W_iconst d_173_2 (v := (-1)) (by decide) ?_
  refine W_iconst d_173_3 (v := 0) (by decide) ?_
  refine W_callVQ d_173_4 o_173 (Or.inl k_7_185) (by omega) (x_158n hX (by omega)) rfl (mrecv_of rfl o_158.symm) rfl (Nat.le_of_ble_eq_true rfl) ?_
  rintro _ _ ⟨rfl, Y1, rfl, hY1⟩
  refine W_istore_n d_173_7 rfl ?_
  refine W_iconst d_173_8 (v := 0) (by decide) ?_
  refine W_istore_n d_173_9 rfl ?_
  refine lp_173a (A := A) (r := r) (n := n) (Lr := Lr) (z := z) (t := t) (Y0 := Y) (S0 := S) hX (by omega) (fun Y2 S2 hq2 hF2 => ?_) 6 0 _ _ (by omega) (meq_o hX.1 hY1) (fr_o hY1)
  have hX2 : MX Y2 S2 (snA A r Lr z r) Lr z n t := hX.fr hF2 hq2 (snA_ap _ _ _ _ _ _ _ (by omega)) (snA_ap _ _ _ _ _ _ _ (by omega)) (fun j _ => (snA_ap _ _ _ _ _ _ _ (by omega)))
  refine W_iconst d_173_39 (v := 0) (by decide) ?_
  refine W_istore_n d_173_40 rfl ?_
  refine lp_173b (A := snA A r Lr z) (r := r) (n := n) (Lr := Lr) (z := z) (t := t) (Y0 := Y2) (S0 := S2) hX2 (p := p) ((snA_ap _ _ _ _ _ _ _ (by omega)).trans hp) hp6 (by omega) (fun Y3 S3 hq3 hF3 => ?_) p 0 _ _ (by omega) hq2 FRh.refl
  have hX3 : MX Y3 S3 (psA (snA A r Lr z) r Lr z p r) Lr z n t := hX2.fr hF3 hq3 (psA_ap _ _ _ _ _ _ _ (by omega) _) (psA_ap _ _ _ _ _ _ _ (by omega) _) (fun j _ => (psA_ap _ _ _ _ _ _ _ (by omega) _))
  refine W_iconst d_173_81 (v := 0) (by decide) ?_
  refine W_istore_n d_173_82 rfl ?_
  refine lp_173c (A := psA (snA A r Lr z) r Lr z p) (r := r) (n := n) (Lr := Lr) (z := z) (t := t) (Y0 := Y3) (S0 := S3) hX3 (by omega) (fun Y4 S4 hq4 hF4 => ?_) n 0 _ _ (by omega) hq3 FRh.refl
  have hX4 : MX Y4 S4 (osA (psA (snA A r Lr z) r Lr z p) r Lr z n r) Lr z n t := hX3.fr hF4 hq4 (osA_ap _ _ _ _ _ _ _ (by omega) _) (osA_ap _ _ _ _ _ _ _ (by omega) _) (fun j _ => (osA_ap _ _ _ _ _ _ _ (by omega) _))
  refine W_iconst d_173_121 (v := 0) (by decide) ?_
  refine W_istore_n d_173_122 rfl ?_
  refine lp_173d (A := osA (psA (snA A r Lr z) r Lr z p) r Lr z n) (r := r) (n := n) (Lr := Lr) (z := z) (t := t) (Y0 := Y4) (S0 := S4) hX4 (by omega) (fun Y5 S5 hq5 hF5 => ?_) n 0 _ _ (by omega) hq4 FRh.refl
  refine W_aload_n d_173_166 rfl (by decide) ?_
  refine W_dup d_173_167 rfl ?_
  refine W_getf d_173_168 o_173 k_7_103 rfl rfl ?_
  refine W_iconst d_173_171 (v := 1) (by decide) ?_
  refine W_iadd d_173_172 ?_
  refine W_putf d_173_173 o_173 k_7_103 rfl (Nat.le_of_ble_eq_true rfl) rfl mm_s8 ?_
  refine W_ret d_173_176 rt_173 ?_
  refine ⟨rfl, _, _, rfl, (hF2.trans (hF3.trans (hF4.trans hF5))).s (by decide), ?_⟩
  show EQ n _ (u3 _ _ _ _ _ _)
  exact meq_s8 hq5 (by rw [show S5 8 = _ from hq5.hi (a := 12) (b := 2) (by decide) (by decide) (by decide)])
