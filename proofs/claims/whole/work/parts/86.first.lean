/-! CONSTRUCTORS: the class reads its first text (wip/whole/gen86.py) -/
def chF : Nat → Int32 := fun j => (roS 0).getD j 0
def tp0 : Nat → Int32 := fun k => if k < 37 then chF k else 0
theorem chF_ok : ∀ i, i < 37 → (((fun j => (roS 0).getD j 0) i &&& 255).toUInt32 % 65536).toInt32 = chF i ∧ narrow .char (.int (chF i)) = .int (chF i) := by decide +kernel
theorem tp0_by : ∀ k, k < 37 → 0 ≤ tp0 k ∧ tp0 k ≤ 255 := by decide +kernel
theorem tp0_0 : pprt tp0 37 1000 0 (tst tp0 37 0) = (true, 10, [2]) := by decide +kernel
theorem tp0_1 : pprt tp0 37 1000 1 10 = (true, 27, [3, 10001, -6]) := by decide +kernel
theorem tp0_2 : pprt tp0 37 1000 2 27 = (true, 37, [1]) := by decide +kernel
theorem tp0_e : tok tp0 37 37 = -1 := by decide +kernel
theorem ad_0 : adN chF z_B 0 37 0 = tp0 := by
  funext k
  rw [adN_ap]
  unfold tp0
  by_cases q : k < 37
  · rw [if_pos (by omega), if_pos q, Nat.sub_zero]
  · rw [if_neg (by omega), if_neg q]
    rfl
theorem ad_1 (i : Nat) : adN chF z_B 0 i 1 0 = nI i := (adN_sz rfl i).trans (congrArg nI (Nat.zero_add i))
section
variable {d : Nat} {g : mG} {Q : Option Value → mM → Prop}
theorem lp_83c (hd : 4 ≤ d) (kk : Wp d 83 166 [.ref 0, .int (nI 37)] [] (92, H3 g (cc z_A z_T z_K (adN chF z_B 0 37) z_E 0 z_G) (ro g)) Q) : ∀ (k i : Nat), i + k = 37 → Wp d 83 138 [.ref 0, .int (nI i)] [] (92, H3 g (cc z_A z_T z_K (adN chF z_B 0 i) z_E 0 z_G) (ro g)) Q := by
  intro k
  induction k with
  | zero =>
    intro i hi
    have ei : i = 37 := by omega
    refine W_iload_n d_83_138 rfl ?_
    refine W_ldcS d_83_139 o_83 k_6_50 ?_
    refine W_callV d_83_141 o_83 (Or.inr k_6_52) (by omega) (x_1 (q := 1003) (b := 1006) (n := 37) (f := fun j => (roS 0).getD j 0) rfl (by decide) rfl (by decide) (by decide) (by omega)) rfl (mrecv_of rfl o_1.symm) rfl (Nat.le_of_ble_eq_true rfl) ?_
    refine W_icmp_ge (tgt := 166) d_83_144 (by decide) (fun _ => ?_) (fun q => absurd (nI_le (a := 37) (b := i) (by omega) (by omega)) q)
    subst ei
    exact kk
  | succ k ih =>
    intro i hi
    refine W_iload_n d_83_138 rfl ?_
    refine W_ldcS d_83_139 o_83 k_6_50 ?_
    refine W_callV d_83_141 o_83 (Or.inr k_6_52) (by omega) (x_1 (q := 1003) (b := 1006) (n := 37) (f := fun j => (roS 0).getD j 0) rfl (by decide) rfl (by decide) (by decide) (by omega)) rfl (mrecv_of rfl o_1.symm) rfl (Nat.le_of_ble_eq_true rfl) ?_
    refine W_icmp_ge (tgt := 166) d_83_144 (by decide) (fun q => absurd q (nI_ge (a := i) (b := 37) (by omega) (by omega))) (fun _ => ?_)
    refine W_aload_n d_83_147 rfl (by decide) ?_
    refine W_getf d_83_148 o_83 k_6_25 rfl rfl ?_
    refine W_ldcS d_83_151 o_83 k_6_50 ?_
    refine W_iload_n d_83_153 rfl ?_
    refine W_callV d_83_154 o_83 (Or.inr k_6_58) (by omega) (x_2 (q := 1003) (b := 1006) (n := 37) (f := fun j => (roS 0).getD j 0) rfl (by decide) rfl (by decide) (by decide) (by omega) (chF_ok i (by omega)).1 (chF_ok i (by omega)).2 (by omega)) rfl (mrecv_of rfl o_2.symm) rfl (Nat.le_of_ble_eq_true rfl) ?_
    refine W_callV d_83_157 o_83 (Or.inl k_6_62) (by omega) (p_36 (c := i) (ad_1 i) (by omega)) rfl (mrecv_of rfl o_36.symm) rfl (Nat.le_of_ble_eq_true rfl) ?_
    refine W_iinc (v := 1) d_83_160 rfl (by decide) rfl ?_
    rw [show ((nI i + 1 : Int32)) = nI (i + 1) from nI_add i 1]
    refine W_goto (tgt := 138) d_83_163 (by decide) ?_
    have h := ih (i + 1) (by omega)
    rw [adN, Nat.zero_add] at h
    exact h
theorem x_83 (hd : 80 ≤ d) : Wp d 83 0 (ment 83 [.ref 0]) [] (HF g 1 (va_up hk 0 (.inr (.inr (6, Dft 6))))) (fun v M => v = none ∧ ∃ B' T', M = (92, H3 g (cc z_A T' z_K (u2 B' 1 0 0) (va_up z_E 1 1) 0 z_G) (ro g)) ∧ ((∀ i, ¬ i = 0 → T' i = z_T i) ∧ T' 0 1 0 = z_T 0 1 0 ∧ LA (z_T 0) 0 (([2] : List Int32) ++ ([3, 10001, -6] : List Int32) ++ ([1] : List Int32)) (T' 0) ∧ T' 0 1 1 = nI ([2] : List Int32).length ∧ T' 0 1 2 = nI (([2] : List Int32).length + ([3, 10001, -6] : List Int32).length) ∧ T' 0 1 3 = nI (([2] : List Int32).length + ([3, 10001, -6] : List Int32).length + ([1] : List Int32).length))) := by
  refine i_83 (by omega) ?_
  rw [HF_92]
  refine lp_83c (by omega) ?_ 37 0 (by decide)
  refine W_aload_n d_83_166 rfl (by decide) ?_
  refine W_getf d_83_167 o_83 k_6_25 rfl rfl ?_
  refine W_aload_n d_83_170 rfl (by decide) ?_
  refine W_getf d_83_171 o_83 k_6_31 rfl rfl ?_
  refine W_iconst d_83_174 (v := 0) (by decide) ?_
  show Wp _ _ _ _ (.int (nI 0) :: _) _ _
  refine W_aald d_83_175 rfl (vp_in_nI (by omega) (by decide)) (txa_v (by omega)) ?_
  refine W_callVQ d_83_176 o_83 (Or.inl k_6_66) (by omega) (x_38_3 (F := 1000) (f := tp0) (sz := 37) (t := 0) (Nat.le_refl _) (by decide) (by decide) tp0_by (by omega) ad_0 (ad_1 37) tp0_0 tp0_1 tp0_2 tp0_e) rfl (mrecv_of rfl o_38.symm) rfl (Nat.le_of_ble_eq_true rfl) ?_
  rintro _ _ ⟨B', T', rfl, rfl, hX⟩
  refine W_pop d_83_179 rfl ?_
  refine W_aload_n d_83_180 rfl (by decide) ?_
  refine W_getf d_83_181 o_83 k_6_25 rfl rfl ?_
  refine W_callV d_83_184 o_83 (Or.inl k_6_70) (by omega) x_37 rfl (mrecv_of rfl o_37.symm) rfl (Nat.le_of_ble_eq_true rfl) ?_
  refine W_aload_n d_83_187 rfl (by decide) ?_
  refine W_iconst d_83_188 (v := 1) (by decide) ?_
  refine W_putf d_83_189 o_83 k_6_73 rfl (Nat.le_of_ble_eq_true rfl) rfl ms_rt6 ?_
  refine W_ret d_83_192 rt_83 ?_
  exact ⟨rfl, B', T', rfl, hX⟩
end
