/-! FEED, IMAGE, BACK (wip/whole/gen47.py) -/
def byf (a b c e f : Int32) : Nat → Int32 := fun i => if i = 0 then a else if i = 1 then b else if i = 2 then c else if i = 3 then e else f
def adN (f : Nat → Int32) (B : tR) (sz : Nat) : Nat → tR
  | 0 => B
  | i + 1 => u2 (u2 (adN f B sz i) 0 (sz + i) (f i)) 1 0 (nI (sz + i + 1))
theorem adN_sz {f : Nat → Int32} {B : tR} {sz : Nat} (h : B 1 0 = nI sz) : ∀ i, adN f B sz i 1 0 = nI (sz + i)
  | 0 => h
  | i + 1 => by rw [adN, u2_ap, if_pos ⟨rfl, rfl⟩, Nat.add_assoc]
theorem adN_ap {f : Nat → Int32} {B : tR} {sz : Nat} : ∀ i k, adN f B sz i 0 k = if sz ≤ k ∧ k < sz + i then f (k - sz) else B 0 k
  | 0, k => by rw [if_neg (by omega)]; rfl
  | i + 1, k => by
    rw [adN, u2_ap, if_neg (by omega), u2_ap]
    by_cases e : k = sz + i
    · rw [if_pos ⟨rfl, e⟩, if_pos (by omega), e, Nat.add_sub_cancel_left]
    · rw [if_neg (fun q => e q.2), adN_ap i k]
      by_cases e2 : sz ≤ k ∧ k < sz + i
      · rw [if_pos e2, if_pos (by omega)]
      · rw [if_neg e2, if_neg (by omega)]
theorem p_36 {d : Nat} {g : mG} {N : Nat} {A T K : Nat → tR} {B : tR} {E : Nat → Int32} {l : Int64} {G : tR} {Qm : Nat → mC} {c : Nat} {x : Int32} (hsz : B 1 0 = nI c) (hc : c < 160) : Ex d 36 [.ref 55, .int x] (N, H3 g (cc A T K B E l G) Qm) none (N, H3 g (cc A T K (u2 (u2 B 0 c x) 1 0 (nI (c + 1))) E l G) Qm) := by
  refine Ex.of ?_
  show Wp _ 36 0 [.ref 55, .int x] [] _ _
  refine W_aload_n d_36_0 rfl (by decide) ?_
  refine W_getf d_36_1 o_36 k_3_15 rfl rfl ?_
  rw [hsz]
  refine W_aload_n d_36_4 rfl (by decide) ?_
  refine W_getf d_36_5 o_36 k_3_9 rfl rfl ?_
  refine W_alen (n := 160) (v := 160) d_36_8 rfl (by decide) ?_
  refine W_icmp_ge (tgt := 32) d_36_9 (by decide) (fun h9 => absurd h9 (nI_ge (a := c) (b := 160) (by omega) (by omega))) (fun h9 => ?_)
  refine W_aload_n d_36_12 rfl (by decide) ?_
  refine W_getf d_36_13 o_36 k_3_9 rfl rfl ?_
  refine W_aload_n d_36_16 rfl (by decide) ?_
  refine W_getf d_36_17 o_36 k_3_15 rfl rfl ?_
  rw [hsz]
  refine W_iload_n d_36_20 rfl ?_
  refine W_iast d_36_21 rfl (vp_in_nI (by omega) (by decide)) (ms_tapeU (nI_clamp (by omega))) ?_
  refine W_aload_n d_36_22 rfl (by decide) ?_
  refine W_dup d_36_23 rfl ?_
  refine W_getf d_36_24 o_36 k_3_15 rfl rfl ?_
  rw [show u2 B 0 c x 1 0 = nI c from (u2_ap _ _ _ _ _ _).trans ((if_neg (by omega)).trans hsz)]
  refine W_iconst d_36_27 (v := 1) (by decide) ?_
  refine W_iadd d_36_28 ?_
  rw [show ((nI c + 1 : Int32)) = nI (c + 1) from nI_add c 1]
  refine W_putf d_36_29 o_36 k_3_15 rfl (Nat.le_of_ble_eq_true rfl) rfl ms_rr1 ?_
  refine W_ret d_36_32 rt_36 ?_
  exact ⟨rfl, rfl⟩
theorem p_86a {d : Nat} {g : mG} {N : Nat} {A T K : Nat → tR} {B : tR} {E : Nat → Int32} {l : Int64} {G : tR} {Qm : Nat → mC} {r0 r1 : Nat} (e0 : r0 = 0) (e1 : r1 = 1) {v a b c e f : Int32} (hb : ¬ ((1 ≤ v ∧ v ≤ 5) ∧ (0 ≤ a ∧ a ≤ 255) ∧ (0 ≤ b ∧ b ≤ 255) ∧ (0 ≤ c ∧ c ≤ 255) ∧ (0 ≤ e ∧ e ≤ 255) ∧ (0 ≤ f ∧ f ≤ 255))) (hd : 3 ≤ d) : Ex d 86 [.ref 0, .int v, .int a, .int b, .int c, .int e, .int f] (N, H3 g (cc A T K B E l G) Qm) (some (.int (-2))) (N, H3 g (cc A T K B E l G) Qm) := by
  refine Ex.of ?_
  show Wp _ 86 0 [.ref 0, .int v, .int a, .int b, .int c, .int e, .int f, .null] [] _ _
  refine W_iload_n d_86_0 rfl ?_
  refine W_iconst d_86_1 (v := 1) (by decide) ?_
  refine W_icmp_lt (tgt := 48) d_86_2 (by decide) (fun h2 => ?_) (fun h2 => ?_)
  · refine W_bipush d_86_48 (v := (-2)) (by decide) ?_
    refine W_iret d_86_50 rt_86 rfl ?_
    exact ⟨rfl, rfl⟩
  · refine W_iload_n d_86_5 rfl ?_
    refine W_iconst d_86_6 (v := 5) (by decide) ?_
    refine W_icmp_gt (tgt := 48) d_86_7 (by decide) (fun h7 => ?_) (fun h7 => ?_)
    · refine W_bipush d_86_48 (v := (-2)) (by decide) ?_
      refine W_iret d_86_50 rt_86 rfl ?_
      exact ⟨rfl, rfl⟩
    · refine W_iload_n d_86_10 rfl ?_
      refine W_callS d_86_11 o_86 k_6_99 (by omega) (x_127 (by omega)) rfl (Nat.le_of_ble_eq_true rfl) ?_
      refine W_if_eq (tgt := 48) d_86_14 (by decide) (fun h14 => ?_) (fun h14 => ?_)
      · refine W_bipush d_86_48 (v := (-2)) (by decide) ?_
        refine W_iret d_86_50 rt_86 rfl ?_
        exact ⟨rfl, rfl⟩
      · refine W_iload_n d_86_17 rfl ?_
        refine W_callS d_86_18 o_86 k_6_99 (by omega) (x_127 (by omega)) rfl (Nat.le_of_ble_eq_true rfl) ?_
        refine W_if_eq (tgt := 48) d_86_21 (by decide) (fun h21 => ?_) (fun h21 => ?_)
        · refine W_bipush d_86_48 (v := (-2)) (by decide) ?_
          refine W_iret d_86_50 rt_86 rfl ?_
          exact ⟨rfl, rfl⟩
        · refine W_iload d_86_24 rfl ?_
          refine W_callS d_86_26 o_86 k_6_99 (by omega) (x_127 (by omega)) rfl (Nat.le_of_ble_eq_true rfl) ?_
          refine W_if_eq (tgt := 48) d_86_29 (by decide) (fun h29 => ?_) (fun h29 => ?_)
          · refine W_bipush d_86_48 (v := (-2)) (by decide) ?_
            refine W_iret d_86_50 rt_86 rfl ?_
            exact ⟨rfl, rfl⟩
          · refine W_iload d_86_32 rfl ?_
            refine W_callS d_86_34 o_86 k_6_99 (by omega) (x_127 (by omega)) rfl (Nat.le_of_ble_eq_true rfl) ?_
            refine W_if_eq (tgt := 48) d_86_37 (by decide) (fun h37 => ?_) (fun h37 => ?_)
            · refine W_bipush d_86_48 (v := (-2)) (by decide) ?_
              refine W_iret d_86_50 rt_86 rfl ?_
              exact ⟨rfl, rfl⟩
            · refine W_iload d_86_40 rfl ?_
              refine W_callS d_86_42 o_86 k_6_99 (by omega) (x_127 (by omega)) rfl (Nat.le_of_ble_eq_true rfl) ?_
              refine W_if_ne (tgt := 51) d_86_45 (by decide) (fun h45 => ?_) (fun h45 => ?_)
              · exact (hb ⟨⟨Int32.not_lt.mp h2, Int32.not_lt.mp h7⟩, bI_t h14, bI_t h21, bI_t h29, bI_t h37, bI_t h45⟩).elim
              · refine W_bipush d_86_48 (v := (-2)) (by decide) ?_
                refine W_iret d_86_50 rt_86 rfl ?_
                exact ⟨rfl, rfl⟩
theorem p_86f {d : Nat} {g : mG} {N : Nat} {A T K : Nat → tR} {B : tR} {E : Nat → Int32} {l : Int64} {G : tR} {Qm : Nat → mC} {r0 r1 : Nat} (e0 : r0 = 0) (e1 : r1 = 1) {nn : Nat} (h1 : 1 ≤ nn) (h5 : nn ≤ 5) {a b c e f : Int32} (hb : (0 ≤ a ∧ a ≤ 255) ∧ (0 ≤ b ∧ b ≤ 255) ∧ (0 ≤ c ∧ c ≤ 255) ∧ (0 ≤ e ∧ e ≤ 255) ∧ (0 ≤ f ∧ f ≤ 255)) {sz : Nat} (hsz : B 1 0 = nI sz) (h160 : sz ≤ 160) (hf : 160 - sz < nn) (hd : 3 ≤ d) : Ex d 86 [.ref 0, .int (nI nn), .int a, .int b, .int c, .int e, .int f] (N, H3 g (cc A T K B E l G) Qm) (some (.int (-4))) (N, H3 g (cc A T K B E l G) Qm) := by
  refine Ex.of ?_
  show Wp _ 86 0 [.ref 0, .int (nI nn), .int a, .int b, .int c, .int e, .int f, .null] [] _ _
  refine W_iload_n d_86_0 rfl ?_
  refine W_iconst d_86_1 (v := 1) (by decide) ?_
  refine W_icmp_lt (tgt := 48) d_86_2 (by decide) (fun h2 => absurd h2 (nI_nlt (a := nn) (b := 1) (by omega) (by omega))) (fun h2 => ?_)
  refine W_iload_n d_86_5 rfl ?_
  refine W_iconst d_86_6 (v := 5) (by decide) ?_
  refine W_icmp_gt (tgt := 48) d_86_7 (by decide) (fun h7 => absurd h7 (nI_nlt (a := 5) (b := nn) (by omega) (by omega))) (fun h7 => ?_)
  refine W_iload_n d_86_10 rfl ?_
  refine W_callS d_86_11 o_86 k_6_99 (by omega) (x_127 (by omega)) rfl (Nat.le_of_ble_eq_true rfl) ?_
  refine W_if_eq (tgt := 48) d_86_14 (by decide) (fun h14 => absurd h14 (fun q => bI_f q hb.1)) (fun h14 => ?_)
  refine W_iload_n d_86_17 rfl ?_
  refine W_callS d_86_18 o_86 k_6_99 (by omega) (x_127 (by omega)) rfl (Nat.le_of_ble_eq_true rfl) ?_
  refine W_if_eq (tgt := 48) d_86_21 (by decide) (fun h21 => absurd h21 (fun q => bI_f q hb.2.1)) (fun h21 => ?_)
  refine W_iload d_86_24 rfl ?_
  refine W_callS d_86_26 o_86 k_6_99 (by omega) (x_127 (by omega)) rfl (Nat.le_of_ble_eq_true rfl) ?_
  refine W_if_eq (tgt := 48) d_86_29 (by decide) (fun h29 => absurd h29 (fun q => bI_f q hb.2.2.1)) (fun h29 => ?_)
  refine W_iload d_86_32 rfl ?_
  refine W_callS d_86_34 o_86 k_6_99 (by omega) (x_127 (by omega)) rfl (Nat.le_of_ble_eq_true rfl) ?_
  refine W_if_eq (tgt := 48) d_86_37 (by decide) (fun h37 => absurd h37 (fun q => bI_f q hb.2.2.2.1)) (fun h37 => ?_)
  refine W_iload d_86_40 rfl ?_
  refine W_callS d_86_42 o_86 k_6_99 (by omega) (x_127 (by omega)) rfl (Nat.le_of_ble_eq_true rfl) ?_
  refine W_if_ne (tgt := 51) d_86_45 (by decide) (fun h45 => ?_) (fun h45 => absurd h45 (fun q => bI_f q hb.2.2.2.2))
  refine W_iload_n d_86_51 rfl ?_
  refine W_sipush d_86_52 (v := 160) (by decide) ?_
  refine W_aload_n d_86_55 rfl (by decide) ?_
  refine W_getf d_86_56 o_86 k_6_25 rfl rfl ?_
  refine W_getf d_86_59 o_86 k_6_92 rfl rfl ?_
  rw [hsz]
  refine W_isub d_86_62 ?_
  rw [show (160 - nI sz : Int32) = nI (160 - sz) from pk_sub (a := 160) (b := sz) h160]
  refine W_icmp_le (tgt := 69) d_86_63 (by decide) (fun h63 => absurd h63 (fun q => absurd q (nI_ge (a := 160 - sz) (b := nn) hf (by omega)))) (fun h63 => ?_)
  refine W_bipush d_86_66 (v := (-4)) (by decide) ?_
  refine W_iret d_86_68 rt_86 rfl ?_
  exact ⟨rfl, rfl⟩
theorem lp_86 {d : Nat} {g : mG} {N : Nat} {A T K : Nat → tR} {B : tR} {E : Nat → Int32} {l : Int64} {G : tR} {Qm : Nat → mC} {r0 r1 : Nat} (e0 : r0 = 0) (e1 : r1 = 1) {nn : Nat} (h5 : nn ≤ 5) {a b c e f : Int32} {sz : Nat} (hsz : B 1 0 = nI sz) (h160 : sz + nn ≤ 160) (hd : 3 ≤ d) {Q : Option Value → mM → Prop} (kk : Wp d 86 173 [.ref 0, .int (nI nn), .int a, .int b, .int c, .int e, .int f, .int (nI nn)] [] (N, H3 g (cc A T K (adN (byf a b c e f) B sz nn) E l G) Qm) Q) : ∀ (k i : Nat), i + k = nn → Wp d 86 72 [.ref 0, .int (nI nn), .int a, .int b, .int c, .int e, .int f, .int (nI i)] [] (N, H3 g (cc A T K (adN (byf a b c e f) B sz i) E l G) Qm) Q := by
  intro k
  induction k with
  | zero =>
    intro i hi
    have ei : i = nn := by omega
    refine W_iload d_86_72 rfl ?_
    refine W_iload_n d_86_74 rfl ?_
    refine W_icmp_ge (tgt := 173) d_86_75 (by decide) (fun h75 => ?_) (fun h75 => absurd (nI_le (a := nn) (b := i) (by omega) (by omega)) h75)
    rw [ei]
    exact kk
  | succ k ih =>
    intro i hi
    have : i = 0 ∨ i = 1 ∨ i = 2 ∨ i = 3 ∨ i = 4 := by omega
    rcases this with rfl | rfl | rfl | rfl | rfl
    · show Wp _ 86 72 [.ref 0, .int (nI nn), .int a, .int b, .int c, .int e, .int f, .int 0] [] _ _
      refine W_iload d_86_72 rfl ?_
      refine W_iload_n d_86_74 rfl ?_
      refine W_icmp_ge (tgt := 173) d_86_75 (by decide) (fun h75 => absurd h75 (nI_ge (a := 0) (b := nn) (by omega) (by omega))) (fun h75 => ?_)
      refine W_iload d_86_78 rfl ?_
      refine W_table (tgt := 112) d_86_80 (off := 32) (by decide) (by decide) ?_
      refine W_aload_n d_86_112 rfl (by decide) ?_
      refine W_getf d_86_113 o_86 k_6_25 rfl rfl ?_
      refine W_iload_n d_86_116 rfl ?_
      refine W_callV d_86_117 o_86 (Or.inl k_6_62) (by omega) (p_36 (c := sz + 0) (adN_sz hsz 0) (by omega)) rfl (mrecv_of rfl o_36.symm) rfl (Nat.le_of_ble_eq_true rfl) ?_
      refine W_goto (tgt := 167) d_86_120 (by decide) ?_
      refine W_iinc (v := 1) d_86_167 rfl (by decide) rfl ?_
      rw [show ((0 + 1 : Int32)) = 1 from by decide]
      refine W_goto (tgt := 72) d_86_170 (by decide) ?_
      exact ih 1 (by omega)
    · show Wp _ 86 72 [.ref 0, .int (nI nn), .int a, .int b, .int c, .int e, .int f, .int 1] [] _ _
      refine W_iload d_86_72 rfl ?_
      refine W_iload_n d_86_74 rfl ?_
      refine W_icmp_ge (tgt := 173) d_86_75 (by decide) (fun h75 => absurd h75 (nI_ge (a := 1) (b := nn) (by omega) (by omega))) (fun h75 => ?_)
      refine W_iload d_86_78 rfl ?_
      refine W_table (tgt := 123) d_86_80 (off := 43) (by decide) (by decide) ?_
      refine W_aload_n d_86_123 rfl (by decide) ?_
      refine W_getf d_86_124 o_86 k_6_25 rfl rfl ?_
      refine W_iload_n d_86_127 rfl ?_
      refine W_callV d_86_128 o_86 (Or.inl k_6_62) (by omega) (p_36 (c := sz + 1) (adN_sz hsz 1) (by omega)) rfl (mrecv_of rfl o_36.symm) rfl (Nat.le_of_ble_eq_true rfl) ?_
      refine W_goto (tgt := 167) d_86_131 (by decide) ?_
      refine W_iinc (v := 1) d_86_167 rfl (by decide) rfl ?_
      rw [show ((1 + 1 : Int32)) = 2 from by decide]
      refine W_goto (tgt := 72) d_86_170 (by decide) ?_
      exact ih 2 (by omega)
    · show Wp _ 86 72 [.ref 0, .int (nI nn), .int a, .int b, .int c, .int e, .int f, .int 2] [] _ _
      refine W_iload d_86_72 rfl ?_
      refine W_iload_n d_86_74 rfl ?_
      refine W_icmp_ge (tgt := 173) d_86_75 (by decide) (fun h75 => absurd h75 (nI_ge (a := 2) (b := nn) (by omega) (by omega))) (fun h75 => ?_)
      refine W_iload d_86_78 rfl ?_
      refine W_table (tgt := 134) d_86_80 (off := 54) (by decide) (by decide) ?_
      refine W_aload_n d_86_134 rfl (by decide) ?_
      refine W_getf d_86_135 o_86 k_6_25 rfl rfl ?_
      refine W_iload d_86_138 rfl ?_
      refine W_callV d_86_140 o_86 (Or.inl k_6_62) (by omega) (p_36 (c := sz + 2) (adN_sz hsz 2) (by omega)) rfl (mrecv_of rfl o_36.symm) rfl (Nat.le_of_ble_eq_true rfl) ?_
      refine W_goto (tgt := 167) d_86_143 (by decide) ?_
      refine W_iinc (v := 1) d_86_167 rfl (by decide) rfl ?_
      rw [show ((2 + 1 : Int32)) = 3 from by decide]
      refine W_goto (tgt := 72) d_86_170 (by decide) ?_
      exact ih 3 (by omega)
    · show Wp _ 86 72 [.ref 0, .int (nI nn), .int a, .int b, .int c, .int e, .int f, .int 3] [] _ _
      refine W_iload d_86_72 rfl ?_
      refine W_iload_n d_86_74 rfl ?_
      refine W_icmp_ge (tgt := 173) d_86_75 (by decide) (fun h75 => absurd h75 (nI_ge (a := 3) (b := nn) (by omega) (by omega))) (fun h75 => ?_)
      refine W_iload d_86_78 rfl ?_
      refine W_table (tgt := 146) d_86_80 (off := 66) (by decide) (by decide) ?_
      refine W_aload_n d_86_146 rfl (by decide) ?_
      refine W_getf d_86_147 o_86 k_6_25 rfl rfl ?_
      refine W_iload d_86_150 rfl ?_
      refine W_callV d_86_152 o_86 (Or.inl k_6_62) (by omega) (p_36 (c := sz + 3) (adN_sz hsz 3) (by omega)) rfl (mrecv_of rfl o_36.symm) rfl (Nat.le_of_ble_eq_true rfl) ?_
      refine W_goto (tgt := 167) d_86_155 (by decide) ?_
      refine W_iinc (v := 1) d_86_167 rfl (by decide) rfl ?_
      rw [show ((3 + 1 : Int32)) = 4 from by decide]
      refine W_goto (tgt := 72) d_86_170 (by decide) ?_
      exact ih 4 (by omega)
    · show Wp _ 86 72 [.ref 0, .int (nI nn), .int a, .int b, .int c, .int e, .int f, .int 4] [] _ _
      refine W_iload d_86_72 rfl ?_
      refine W_iload_n d_86_74 rfl ?_
      refine W_icmp_ge (tgt := 173) d_86_75 (by decide) (fun h75 => absurd h75 (nI_ge (a := 4) (b := nn) (by omega) (by omega))) (fun h75 => ?_)
      refine W_iload d_86_78 rfl ?_
      refine W_table (tgt := 158) d_86_80 (off := 78) (by decide) (by decide) ?_
      refine W_aload_n d_86_158 rfl (by decide) ?_
      refine W_getf d_86_159 o_86 k_6_25 rfl rfl ?_
      refine W_iload d_86_162 rfl ?_
      refine W_callV d_86_164 o_86 (Or.inl k_6_62) (by omega) (p_36 (c := sz + 4) (adN_sz hsz 4) (by omega)) rfl (mrecv_of rfl o_36.symm) rfl (Nat.le_of_ble_eq_true rfl) ?_
      refine W_iinc (v := 1) d_86_167 rfl (by decide) rfl ?_
      rw [show ((4 + 1 : Int32)) = 5 from by decide]
      refine W_goto (tgt := 72) d_86_170 (by decide) ?_
      exact ih 5 (by omega)
theorem p_86 {d : Nat} {g : mG} {N : Nat} {A T K : Nat → tR} {B : tR} {E : Nat → Int32} {l : Int64} {G : tR} {Qm : Nat → mC} {r0 r1 : Nat} (e0 : r0 = 0) (e1 : r1 = 1) {nn : Nat} (h1 : 1 ≤ nn) (h5 : nn ≤ 5) {a b c e f : Int32} (hb : (0 ≤ a ∧ a ≤ 255) ∧ (0 ≤ b ∧ b ≤ 255) ∧ (0 ≤ c ∧ c ≤ 255) ∧ (0 ≤ e ∧ e ≤ 255) ∧ (0 ≤ f ∧ f ≤ 255)) {sz : Nat} (hsz : B 1 0 = nI sz) (h160 : sz ≤ 160) (hok : sz + nn ≤ 160) (hd : 4 ≤ d) : Ex d 86 [.ref 0, .int (nI nn), .int a, .int b, .int c, .int e, .int f] (N, H3 g (cc A T K B E l G) Qm) (some (.int (nI (sz + nn)))) (N, H3 g (cc A T K (adN (byf a b c e f) B sz nn) E l G) Qm) := by
  refine Ex.of ?_
  show Wp _ 86 0 [.ref 0, .int (nI nn), .int a, .int b, .int c, .int e, .int f, .null] [] _ _
  refine W_iload_n d_86_0 rfl ?_
  refine W_iconst d_86_1 (v := 1) (by decide) ?_
  refine W_icmp_lt (tgt := 48) d_86_2 (by decide) (fun h2 => absurd h2 (nI_nlt (a := nn) (b := 1) (by omega) (by omega))) (fun h2 => ?_)
  refine W_iload_n d_86_5 rfl ?_
  refine W_iconst d_86_6 (v := 5) (by decide) ?_
  refine W_icmp_gt (tgt := 48) d_86_7 (by decide) (fun h7 => absurd h7 (nI_nlt (a := 5) (b := nn) (by omega) (by omega))) (fun h7 => ?_)
  refine W_iload_n d_86_10 rfl ?_
  refine W_callS d_86_11 o_86 k_6_99 (by omega) (x_127 (by omega)) rfl (Nat.le_of_ble_eq_true rfl) ?_
  refine W_if_eq (tgt := 48) d_86_14 (by decide) (fun h14 => absurd h14 (fun q => bI_f q hb.1)) (fun h14 => ?_)
  refine W_iload_n d_86_17 rfl ?_
  refine W_callS d_86_18 o_86 k_6_99 (by omega) (x_127 (by omega)) rfl (Nat.le_of_ble_eq_true rfl) ?_
  refine W_if_eq (tgt := 48) d_86_21 (by decide) (fun h21 => absurd h21 (fun q => bI_f q hb.2.1)) (fun h21 => ?_)
  refine W_iload d_86_24 rfl ?_
  refine W_callS d_86_26 o_86 k_6_99 (by omega) (x_127 (by omega)) rfl (Nat.le_of_ble_eq_true rfl) ?_
  refine W_if_eq (tgt := 48) d_86_29 (by decide) (fun h29 => absurd h29 (fun q => bI_f q hb.2.2.1)) (fun h29 => ?_)
  refine W_iload d_86_32 rfl ?_
  refine W_callS d_86_34 o_86 k_6_99 (by omega) (x_127 (by omega)) rfl (Nat.le_of_ble_eq_true rfl) ?_
  refine W_if_eq (tgt := 48) d_86_37 (by decide) (fun h37 => absurd h37 (fun q => bI_f q hb.2.2.2.1)) (fun h37 => ?_)
  refine W_iload d_86_40 rfl ?_
  refine W_callS d_86_42 o_86 k_6_99 (by omega) (x_127 (by omega)) rfl (Nat.le_of_ble_eq_true rfl) ?_
  refine W_if_ne (tgt := 51) d_86_45 (by decide) (fun h45 => ?_) (fun h45 => absurd h45 (fun q => bI_f q hb.2.2.2.2))
  refine W_iload_n d_86_51 rfl ?_
  refine W_sipush d_86_52 (v := 160) (by decide) ?_
  refine W_aload_n d_86_55 rfl (by decide) ?_
  refine W_getf d_86_56 o_86 k_6_25 rfl rfl ?_
  refine W_getf d_86_59 o_86 k_6_92 rfl rfl ?_
  rw [hsz]
  refine W_isub d_86_62 ?_
  rw [show (160 - nI sz : Int32) = nI (160 - sz) from pk_sub (a := 160) (b := sz) h160]
  refine W_icmp_le (tgt := 69) d_86_63 (by decide) (fun h63 => ?_) (fun h63 => absurd (nI_le (a := nn) (b := 160 - sz) (by omega) (by omega)) h63)
  refine W_iconst d_86_69 (v := 0) (by decide) ?_
  refine W_istore d_86_70 rfl ?_
  refine lp_86 (a := a) (b := b) (c := c) (e := e) (f := f) e0 e1 h5 hsz hok (by omega) ?_ nn 0 (by omega)
  refine W_aload_n d_86_173 rfl (by decide) ?_
  refine W_getf d_86_174 o_86 k_6_25 rfl rfl ?_
  refine W_getf d_86_177 o_86 k_6_92 rfl rfl ?_
  refine W_iret d_86_180 rt_86 rfl ?_
  exact ⟨congrArg (fun z => some (Value.int z)) (adN_sz hsz nn), rfl⟩
def tpY (f : Nat → Int32) (Y : tR) (sz : Nat) : Nat → tR
  | 0 => Y
  | i + 1 => u2 (tpY f Y sz i) 6 (sz + i) (f i)
def tpS (S : Nat → Int32) (sz : Nat) : Nat → Nat → Int32
  | 0 => S
  | i + 1 => va_up (tpS S sz i) 11 (nI (sz + i + 1))
theorem tpS_11 {S : Nat → Int32} {sz : Nat} (h : S 11 = nI sz) : ∀ i, tpS S sz i 11 = nI (sz + i)
  | 0 => h
  | i + 1 => va_same _ _ _
theorem tpS_o {S : Nat → Int32} {sz j : Nat} (h : ¬ j = 11) : ∀ i, tpS S sz i j = S j
  | 0 => rfl
  | i + 1 => (va_oth _ _ h).trans (tpS_o h i)
theorem tpY_o {f : Nat → Int32} {Y : tR} {sz j : Nat} (h : ¬ j = 6) : ∀ i, tpY f Y sz i j = Y j
  | 0 => rfl
  | i + 1 => (u2_row h).trans (tpY_o h i)
theorem tpY_ap {f : Nat → Int32} {Y : tR} {sz : Nat} : ∀ i k, tpY f Y sz i 6 k = if sz ≤ k ∧ k < sz + i then f (k - sz) else Y 6 k
  | 0, k => by rw [if_neg (by omega)]; rfl
  | i + 1, k => by
    rw [tpY, u2_ap]
    by_cases e : k = sz + i
    · rw [if_pos ⟨rfl, e⟩, if_pos (by omega), e, Nat.add_sub_cancel_left]
    · rw [if_neg (fun q => e q.2), tpY_ap i k]
      by_cases e2 : sz ≤ k ∧ k < sz + i
      · rw [if_pos e2, if_pos (by omega)]
      · rw [if_neg e2, if_neg (by omega)]
theorem q_143a {d : Nat} {g : mG} {N : Nat} {P : Nat → mC} {Y : tR} {S : Nat → Int32} {v a b c e f : Int32} (hb : ¬ ((1 ≤ v ∧ v ≤ 5) ∧ (0 ≤ a ∧ a ≤ 255) ∧ (0 ≤ b ∧ b ≤ 255) ∧ (0 ≤ c ∧ c ≤ 255) ∧ (0 ≤ e ∧ e ≤ 255) ∧ (0 ≤ f ∧ f ≤ 255))) (hd : 3 ≤ d) : Ex d 143 [.ref 92, .int v, .int a, .int b, .int c, .int e, .int f] (N, H3 g P (mm Y S)) (some (.int (-2))) (N, H3 g P (mm Y S)) := by
  refine Ex.of ?_
  show Wp _ 143 0 [.ref 92, .int v, .int a, .int b, .int c, .int e, .int f, .null] [] _ _
  refine W_iload_n d_143_0 rfl ?_
  refine W_iconst d_143_1 (v := 1) (by decide) ?_
  refine W_iconst d_143_2 (v := 5) (by decide) ?_
  refine W_callS d_143_3 o_143 k_7_96 (by omega) x_135 rfl (Nat.le_of_ble_eq_true rfl) ?_
  refine W_if_eq (tgt := 47) d_143_6 (by decide) (fun h6 => ?_) (fun h6 => ?_)
  · refine W_bipush d_143_47 (v := (-2)) (by decide) ?_
    refine W_iret d_143_49 rt_143 rfl ?_
    exact ⟨rfl, rfl⟩
  · refine W_iload_n d_143_9 rfl ?_
    refine W_callS d_143_10 o_143 k_7_112 (by omega) (x_142 (by omega)) rfl (Nat.le_of_ble_eq_true rfl) ?_
    refine W_if_eq (tgt := 47) d_143_13 (by decide) (fun h13 => ?_) (fun h13 => ?_)
    · refine W_bipush d_143_47 (v := (-2)) (by decide) ?_
      refine W_iret d_143_49 rt_143 rfl ?_
      exact ⟨rfl, rfl⟩
    · refine W_iload_n d_143_16 rfl ?_
      refine W_callS d_143_17 o_143 k_7_112 (by omega) (x_142 (by omega)) rfl (Nat.le_of_ble_eq_true rfl) ?_
      refine W_if_eq (tgt := 47) d_143_20 (by decide) (fun h20 => ?_) (fun h20 => ?_)
      · refine W_bipush d_143_47 (v := (-2)) (by decide) ?_
        refine W_iret d_143_49 rt_143 rfl ?_
        exact ⟨rfl, rfl⟩
      · refine W_iload d_143_23 rfl ?_
        refine W_callS d_143_25 o_143 k_7_112 (by omega) (x_142 (by omega)) rfl (Nat.le_of_ble_eq_true rfl) ?_
        refine W_if_eq (tgt := 47) d_143_28 (by decide) (fun h28 => ?_) (fun h28 => ?_)
        · refine W_bipush d_143_47 (v := (-2)) (by decide) ?_
          refine W_iret d_143_49 rt_143 rfl ?_
          exact ⟨rfl, rfl⟩
        · refine W_iload d_143_31 rfl ?_
          refine W_callS d_143_33 o_143 k_7_112 (by omega) (x_142 (by omega)) rfl (Nat.le_of_ble_eq_true rfl) ?_
          refine W_if_eq (tgt := 47) d_143_36 (by decide) (fun h36 => ?_) (fun h36 => ?_)
          · refine W_bipush d_143_47 (v := (-2)) (by decide) ?_
            refine W_iret d_143_49 rt_143 rfl ?_
            exact ⟨rfl, rfl⟩
          · refine W_iload d_143_39 rfl ?_
            refine W_callS d_143_41 o_143 k_7_112 (by omega) (x_142 (by omega)) rfl (Nat.le_of_ble_eq_true rfl) ?_
            refine W_if_ne (tgt := 50) d_143_44 (by decide) (fun h44 => ?_) (fun h44 => ?_)
            · exact (hb ⟨bI_t h6, bI_t h13, bI_t h20, bI_t h28, bI_t h36, bI_t h44⟩).elim
            · refine W_bipush d_143_47 (v := (-2)) (by decide) ?_
              refine W_iret d_143_49 rt_143 rfl ?_
              exact ⟨rfl, rfl⟩
theorem q_143f {d : Nat} {g : mG} {N : Nat} {P : Nat → mC} {Y : tR} {S : Nat → Int32} {nn : Nat} (h1 : 1 ≤ nn) (h5 : nn ≤ 5) {a b c e f : Int32} (hb : (0 ≤ a ∧ a ≤ 255) ∧ (0 ≤ b ∧ b ≤ 255) ∧ (0 ≤ c ∧ c ≤ 255) ∧ (0 ≤ e ∧ e ≤ 255) ∧ (0 ≤ f ∧ f ≤ 255)) {sz : Nat} (hsz : S 11 = nI sz) (h160 : sz ≤ 160) (hf : 160 - sz < nn) (hd : 3 ≤ d) : Ex d 143 [.ref 92, .int (nI nn), .int a, .int b, .int c, .int e, .int f] (N, H3 g P (mm Y S)) (some (.int (-4))) (N, H3 g P (mm Y S)) := by
  refine Ex.of ?_
  show Wp _ 143 0 [.ref 92, .int (nI nn), .int a, .int b, .int c, .int e, .int f, .null] [] _ _
  refine W_iload_n d_143_0 rfl ?_
  refine W_iconst d_143_1 (v := 1) (by decide) ?_
  refine W_iconst d_143_2 (v := 5) (by decide) ?_
  refine W_callS d_143_3 o_143 k_7_96 (by omega) x_135 rfl (Nat.le_of_ble_eq_true rfl) ?_
  refine W_if_eq (tgt := 47) d_143_6 (by decide) (fun h6 => absurd h6 (fun q => bI_f q ⟨nI_le (a := 1) (b := nn) h1 (by omega), nI_le (a := nn) (b := 5) h5 (by decide)⟩)) (fun h6 => ?_)
  refine W_iload_n d_143_9 rfl ?_
  refine W_callS d_143_10 o_143 k_7_112 (by omega) (x_142 (by omega)) rfl (Nat.le_of_ble_eq_true rfl) ?_
  refine W_if_eq (tgt := 47) d_143_13 (by decide) (fun h13 => absurd h13 (fun q => bI_f q hb.1)) (fun h13 => ?_)
  refine W_iload_n d_143_16 rfl ?_
  refine W_callS d_143_17 o_143 k_7_112 (by omega) (x_142 (by omega)) rfl (Nat.le_of_ble_eq_true rfl) ?_
  refine W_if_eq (tgt := 47) d_143_20 (by decide) (fun h20 => absurd h20 (fun q => bI_f q hb.2.1)) (fun h20 => ?_)
  refine W_iload d_143_23 rfl ?_
  refine W_callS d_143_25 o_143 k_7_112 (by omega) (x_142 (by omega)) rfl (Nat.le_of_ble_eq_true rfl) ?_
  refine W_if_eq (tgt := 47) d_143_28 (by decide) (fun h28 => absurd h28 (fun q => bI_f q hb.2.2.1)) (fun h28 => ?_)
  refine W_iload d_143_31 rfl ?_
  refine W_callS d_143_33 o_143 k_7_112 (by omega) (x_142 (by omega)) rfl (Nat.le_of_ble_eq_true rfl) ?_
  refine W_if_eq (tgt := 47) d_143_36 (by decide) (fun h36 => absurd h36 (fun q => bI_f q hb.2.2.2.1)) (fun h36 => ?_)
  refine W_iload d_143_39 rfl ?_
  refine W_callS d_143_41 o_143 k_7_112 (by omega) (x_142 (by omega)) rfl (Nat.le_of_ble_eq_true rfl) ?_
  refine W_if_ne (tgt := 50) d_143_44 (by decide) (fun h44 => ?_) (fun h44 => absurd h44 (fun q => bI_f q hb.2.2.2.2))
  refine W_aload_n d_143_50 rfl (by decide) ?_
  refine W_getf d_143_51 o_143 k_7_86 rfl rfl ?_
  rw [hsz]
  refine W_iload_n d_143_54 rfl ?_
  refine W_iadd d_143_55 ?_
  rw [show ((nI sz + nI nn : Int32)) = nI (sz + nn) from nI_add sz nn]
  refine W_sipush d_143_56 (v := 160) (by decide) ?_
  refine W_icmp_le (tgt := 65) d_143_59 (by decide) (fun h59 => absurd h59 (nI_ge (a := 160) (b := sz + nn) (by omega) (by omega))) (fun h59 => ?_)
  refine W_bipush d_143_62 (v := (-4)) (by decide) ?_
  refine W_iret d_143_64 rt_143 rfl ?_
  exact ⟨rfl, rfl⟩
theorem lq_143 {d : Nat} {g : mG} {N : Nat} {P : Nat → mC} {Y : tR} {S : Nat → Int32} {nn : Nat} (h5 : nn ≤ 5) {a b c e f : Int32} {sz : Nat} (hsz : S 11 = nI sz) (h160 : sz + nn ≤ 160) {Q : Option Value → mM → Prop} (kk : Wp d 143 142 [.ref 92, .int (nI nn), .int a, .int b, .int c, .int e, .int f, .int (nI nn)] [] (N, H3 g P (mm (tpY (byf a b c e f) Y sz nn) (tpS S sz nn))) Q) : ∀ (k i : Nat), i + k = nn → Wp d 143 68 [.ref 92, .int (nI nn), .int a, .int b, .int c, .int e, .int f, .int (nI i)] [] (N, H3 g P (mm (tpY (byf a b c e f) Y sz i) (tpS S sz i))) Q := by
  intro k
  induction k with
  | zero =>
    intro i hi
    have ei : i = nn := by omega
    refine W_iload d_143_68 rfl ?_
    refine W_iload_n d_143_70 rfl ?_
    refine W_icmp_ge (tgt := 142) d_143_71 (by decide) (fun h71 => ?_) (fun h71 => absurd (nI_le (a := nn) (b := i) (by omega) (by omega)) h71)
    rw [ei]
    exact kk
  | succ k ih =>
    intro i hi
    have : i = 0 ∨ i = 1 ∨ i = 2 ∨ i = 3 ∨ i = 4 := by omega
    rcases this with rfl | rfl | rfl | rfl | rfl
    · show Wp _ 143 68 [.ref 92, .int (nI nn), .int a, .int b, .int c, .int e, .int f, .int 0] [] (N, H3 g P (mm (tpY (byf a b c e f) Y sz 0) (tpS S sz 0))) _
      refine W_iload d_143_68 rfl ?_
      refine W_iload_n d_143_70 rfl ?_
      refine W_icmp_ge (tgt := 142) d_143_71 (by decide) (fun h71 => absurd h71 (nI_ge (a := 0) (b := nn) (by omega) (by omega))) (fun h71 => ?_)
      refine W_aload_n d_143_74 rfl (by decide) ?_
      refine W_getf d_143_75 o_143 k_7_32 rfl rfl ?_
      refine W_aload_n d_143_78 rfl (by decide) ?_
      refine W_getf d_143_79 o_143 k_7_86 rfl rfl ?_
      rw [tpS_11 hsz 0]
      refine W_iload d_143_82 rfl ?_
      refine W_if_ne (tgt := 91) d_143_84 (by decide) (fun h84 => absurd h84 (by decide)) (fun _ => ?_)
      refine W_iload_n d_143_87 rfl ?_
      refine W_goto (tgt := 125) d_143_88 (by decide) ?_
      refine W_mst (a := 6) d_143_125 rfl (by decide) (n := 160) rfl (vp_in_nI (by omega) (by decide)) (nI_clamp (by omega)) ?_
      refine W_aload_n d_143_126 rfl (by decide) ?_
      refine W_dup d_143_127 rfl ?_
      refine W_getf d_143_128 o_143 k_7_86 rfl rfl ?_
      rw [tpS_11 hsz 0]
      refine W_iconst d_143_131 (v := 1) (by decide) ?_
      refine W_iadd d_143_132 ?_
      rw [show ((nI (sz + 0) + 1 : Int32)) = nI ((sz + 0) + 1) from nI_add (sz + 0) 1]
      refine W_putf d_143_133 o_143 k_7_86 rfl (Nat.le_of_ble_eq_true rfl) rfl mm_s11 ?_
      refine W_iinc (v := 1) d_143_136 rfl (by decide) rfl ?_
      rw [show ((0 + 1 : Int32)) = 1 from by decide]
      refine W_goto (tgt := 68) d_143_139 (by decide) ?_
      exact ih 1 (by omega)
    · show Wp _ 143 68 [.ref 92, .int (nI nn), .int a, .int b, .int c, .int e, .int f, .int 1] [] (N, H3 g P (mm (tpY (byf a b c e f) Y sz 1) (tpS S sz 1))) _
      refine W_iload d_143_68 rfl ?_
      refine W_iload_n d_143_70 rfl ?_
      refine W_icmp_ge (tgt := 142) d_143_71 (by decide) (fun h71 => absurd h71 (nI_ge (a := 1) (b := nn) (by omega) (by omega))) (fun h71 => ?_)
      refine W_aload_n d_143_74 rfl (by decide) ?_
      refine W_getf d_143_75 o_143 k_7_32 rfl rfl ?_
      refine W_aload_n d_143_78 rfl (by decide) ?_
      refine W_getf d_143_79 o_143 k_7_86 rfl rfl ?_
      rw [tpS_11 hsz 1]
      refine W_iload d_143_82 rfl ?_
      refine W_if_ne (tgt := 91) d_143_84 (by decide) (fun _ => ?_) (fun h84 => absurd h84 (by decide))
      refine W_iload d_143_91 rfl ?_
      refine W_iconst d_143_93 (v := 1) (by decide) ?_
      refine W_icmp_ne (tgt := 101) d_143_94 (by decide) (fun h94 => absurd h94 (by decide)) (fun _ => ?_)
      refine W_iload_n d_143_97 rfl ?_
      refine W_goto (tgt := 125) d_143_98 (by decide) ?_
      refine W_mst (a := 6) d_143_125 rfl (by decide) (n := 160) rfl (vp_in_nI (by omega) (by decide)) (nI_clamp (by omega)) ?_
      refine W_aload_n d_143_126 rfl (by decide) ?_
      refine W_dup d_143_127 rfl ?_
      refine W_getf d_143_128 o_143 k_7_86 rfl rfl ?_
      rw [tpS_11 hsz 1]
      refine W_iconst d_143_131 (v := 1) (by decide) ?_
      refine W_iadd d_143_132 ?_
      rw [show ((nI (sz + 1) + 1 : Int32)) = nI ((sz + 1) + 1) from nI_add (sz + 1) 1]
      refine W_putf d_143_133 o_143 k_7_86 rfl (Nat.le_of_ble_eq_true rfl) rfl mm_s11 ?_
      refine W_iinc (v := 1) d_143_136 rfl (by decide) rfl ?_
      rw [show ((1 + 1 : Int32)) = 2 from by decide]
      refine W_goto (tgt := 68) d_143_139 (by decide) ?_
      exact ih 2 (by omega)
    · show Wp _ 143 68 [.ref 92, .int (nI nn), .int a, .int b, .int c, .int e, .int f, .int 2] [] (N, H3 g P (mm (tpY (byf a b c e f) Y sz 2) (tpS S sz 2))) _
      refine W_iload d_143_68 rfl ?_
      refine W_iload_n d_143_70 rfl ?_
      refine W_icmp_ge (tgt := 142) d_143_71 (by decide) (fun h71 => absurd h71 (nI_ge (a := 2) (b := nn) (by omega) (by omega))) (fun h71 => ?_)
      refine W_aload_n d_143_74 rfl (by decide) ?_
      refine W_getf d_143_75 o_143 k_7_32 rfl rfl ?_
      refine W_aload_n d_143_78 rfl (by decide) ?_
      refine W_getf d_143_79 o_143 k_7_86 rfl rfl ?_
      rw [tpS_11 hsz 2]
      refine W_iload d_143_82 rfl ?_
      refine W_if_ne (tgt := 91) d_143_84 (by decide) (fun _ => ?_) (fun h84 => absurd h84 (by decide))
      refine W_iload d_143_91 rfl ?_
      refine W_iconst d_143_93 (v := 1) (by decide) ?_
      refine W_icmp_ne (tgt := 101) d_143_94 (by decide) (fun _ => ?_) (fun h94 => absurd h94 (by decide))
      refine W_iload d_143_101 rfl ?_
      refine W_iconst d_143_103 (v := 2) (by decide) ?_
      refine W_icmp_ne (tgt := 112) d_143_104 (by decide) (fun h104 => absurd h104 (by decide)) (fun _ => ?_)
      refine W_iload d_143_107 rfl ?_
      refine W_goto (tgt := 125) d_143_109 (by decide) ?_
      refine W_mst (a := 6) d_143_125 rfl (by decide) (n := 160) rfl (vp_in_nI (by omega) (by decide)) (nI_clamp (by omega)) ?_
      refine W_aload_n d_143_126 rfl (by decide) ?_
      refine W_dup d_143_127 rfl ?_
      refine W_getf d_143_128 o_143 k_7_86 rfl rfl ?_
      rw [tpS_11 hsz 2]
      refine W_iconst d_143_131 (v := 1) (by decide) ?_
      refine W_iadd d_143_132 ?_
      rw [show ((nI (sz + 2) + 1 : Int32)) = nI ((sz + 2) + 1) from nI_add (sz + 2) 1]
      refine W_putf d_143_133 o_143 k_7_86 rfl (Nat.le_of_ble_eq_true rfl) rfl mm_s11 ?_
      refine W_iinc (v := 1) d_143_136 rfl (by decide) rfl ?_
      rw [show ((2 + 1 : Int32)) = 3 from by decide]
      refine W_goto (tgt := 68) d_143_139 (by decide) ?_
      exact ih 3 (by omega)
    · show Wp _ 143 68 [.ref 92, .int (nI nn), .int a, .int b, .int c, .int e, .int f, .int 3] [] (N, H3 g P (mm (tpY (byf a b c e f) Y sz 3) (tpS S sz 3))) _
      refine W_iload d_143_68 rfl ?_
      refine W_iload_n d_143_70 rfl ?_
      refine W_icmp_ge (tgt := 142) d_143_71 (by decide) (fun h71 => absurd h71 (nI_ge (a := 3) (b := nn) (by omega) (by omega))) (fun h71 => ?_)
      refine W_aload_n d_143_74 rfl (by decide) ?_
      refine W_getf d_143_75 o_143 k_7_32 rfl rfl ?_
      refine W_aload_n d_143_78 rfl (by decide) ?_
      refine W_getf d_143_79 o_143 k_7_86 rfl rfl ?_
      rw [tpS_11 hsz 3]
      refine W_iload d_143_82 rfl ?_
      refine W_if_ne (tgt := 91) d_143_84 (by decide) (fun _ => ?_) (fun h84 => absurd h84 (by decide))
      refine W_iload d_143_91 rfl ?_
      refine W_iconst d_143_93 (v := 1) (by decide) ?_
      refine W_icmp_ne (tgt := 101) d_143_94 (by decide) (fun _ => ?_) (fun h94 => absurd h94 (by decide))
      refine W_iload d_143_101 rfl ?_
      refine W_iconst d_143_103 (v := 2) (by decide) ?_
      refine W_icmp_ne (tgt := 112) d_143_104 (by decide) (fun _ => ?_) (fun h104 => absurd h104 (by decide))
      refine W_iload d_143_112 rfl ?_
      refine W_iconst d_143_114 (v := 3) (by decide) ?_
      refine W_icmp_ne (tgt := 123) d_143_115 (by decide) (fun h115 => absurd h115 (by decide)) (fun _ => ?_)
      refine W_iload d_143_118 rfl ?_
      refine W_goto (tgt := 125) d_143_120 (by decide) ?_
      refine W_mst (a := 6) d_143_125 rfl (by decide) (n := 160) rfl (vp_in_nI (by omega) (by decide)) (nI_clamp (by omega)) ?_
      refine W_aload_n d_143_126 rfl (by decide) ?_
      refine W_dup d_143_127 rfl ?_
      refine W_getf d_143_128 o_143 k_7_86 rfl rfl ?_
      rw [tpS_11 hsz 3]
      refine W_iconst d_143_131 (v := 1) (by decide) ?_
      refine W_iadd d_143_132 ?_
      rw [show ((nI (sz + 3) + 1 : Int32)) = nI ((sz + 3) + 1) from nI_add (sz + 3) 1]
      refine W_putf d_143_133 o_143 k_7_86 rfl (Nat.le_of_ble_eq_true rfl) rfl mm_s11 ?_
      refine W_iinc (v := 1) d_143_136 rfl (by decide) rfl ?_
      rw [show ((3 + 1 : Int32)) = 4 from by decide]
      refine W_goto (tgt := 68) d_143_139 (by decide) ?_
      exact ih 4 (by omega)
    · show Wp _ 143 68 [.ref 92, .int (nI nn), .int a, .int b, .int c, .int e, .int f, .int 4] [] (N, H3 g P (mm (tpY (byf a b c e f) Y sz 4) (tpS S sz 4))) _
      refine W_iload d_143_68 rfl ?_
      refine W_iload_n d_143_70 rfl ?_
      refine W_icmp_ge (tgt := 142) d_143_71 (by decide) (fun h71 => absurd h71 (nI_ge (a := 4) (b := nn) (by omega) (by omega))) (fun h71 => ?_)
      refine W_aload_n d_143_74 rfl (by decide) ?_
      refine W_getf d_143_75 o_143 k_7_32 rfl rfl ?_
      refine W_aload_n d_143_78 rfl (by decide) ?_
      refine W_getf d_143_79 o_143 k_7_86 rfl rfl ?_
      rw [tpS_11 hsz 4]
      refine W_iload d_143_82 rfl ?_
      refine W_if_ne (tgt := 91) d_143_84 (by decide) (fun _ => ?_) (fun h84 => absurd h84 (by decide))
      refine W_iload d_143_91 rfl ?_
      refine W_iconst d_143_93 (v := 1) (by decide) ?_
      refine W_icmp_ne (tgt := 101) d_143_94 (by decide) (fun _ => ?_) (fun h94 => absurd h94 (by decide))
      refine W_iload d_143_101 rfl ?_
      refine W_iconst d_143_103 (v := 2) (by decide) ?_
      refine W_icmp_ne (tgt := 112) d_143_104 (by decide) (fun _ => ?_) (fun h104 => absurd h104 (by decide))
      refine W_iload d_143_112 rfl ?_
      refine W_iconst d_143_114 (v := 3) (by decide) ?_
      refine W_icmp_ne (tgt := 123) d_143_115 (by decide) (fun _ => ?_) (fun h115 => absurd h115 (by decide))
      refine W_iload d_143_123 rfl ?_
      refine W_mst (a := 6) d_143_125 rfl (by decide) (n := 160) rfl (vp_in_nI (by omega) (by decide)) (nI_clamp (by omega)) ?_
      refine W_aload_n d_143_126 rfl (by decide) ?_
      refine W_dup d_143_127 rfl ?_
      refine W_getf d_143_128 o_143 k_7_86 rfl rfl ?_
      rw [tpS_11 hsz 4]
      refine W_iconst d_143_131 (v := 1) (by decide) ?_
      refine W_iadd d_143_132 ?_
      rw [show ((nI (sz + 4) + 1 : Int32)) = nI ((sz + 4) + 1) from nI_add (sz + 4) 1]
      refine W_putf d_143_133 o_143 k_7_86 rfl (Nat.le_of_ble_eq_true rfl) rfl mm_s11 ?_
      refine W_iinc (v := 1) d_143_136 rfl (by decide) rfl ?_
      rw [show ((4 + 1 : Int32)) = 5 from by decide]
      refine W_goto (tgt := 68) d_143_139 (by decide) ?_
      exact ih 5 (by omega)
theorem q_143 {d : Nat} {g : mG} {N : Nat} {P : Nat → mC} {Y : tR} {S : Nat → Int32} {nn : Nat} (h1 : 1 ≤ nn) (h5 : nn ≤ 5) {a b c e f : Int32} (hb : (0 ≤ a ∧ a ≤ 255) ∧ (0 ≤ b ∧ b ≤ 255) ∧ (0 ≤ c ∧ c ≤ 255) ∧ (0 ≤ e ∧ e ≤ 255) ∧ (0 ≤ f ∧ f ≤ 255)) {sz : Nat} (hsz : S 11 = nI sz) (h160 : sz ≤ 160) (hok : sz + nn ≤ 160) (hd : 4 ≤ d) : Ex d 143 [.ref 92, .int (nI nn), .int a, .int b, .int c, .int e, .int f] (N, H3 g P (mm Y S)) (some (.int (nI (sz + nn)))) (N, H3 g P (mm (tpY (byf a b c e f) Y sz nn) (tpS S sz nn))) := by
  refine Ex.of ?_
  show Wp _ 143 0 [.ref 92, .int (nI nn), .int a, .int b, .int c, .int e, .int f, .null] [] _ _
  refine W_iload_n d_143_0 rfl ?_
  refine W_iconst d_143_1 (v := 1) (by decide) ?_
  refine W_iconst d_143_2 (v := 5) (by decide) ?_
  refine W_callS d_143_3 o_143 k_7_96 (by omega) x_135 rfl (Nat.le_of_ble_eq_true rfl) ?_
  refine W_if_eq (tgt := 47) d_143_6 (by decide) (fun h6 => absurd h6 (fun q => bI_f q ⟨nI_le (a := 1) (b := nn) h1 (by omega), nI_le (a := nn) (b := 5) h5 (by decide)⟩)) (fun h6 => ?_)
  refine W_iload_n d_143_9 rfl ?_
  refine W_callS d_143_10 o_143 k_7_112 (by omega) (x_142 (by omega)) rfl (Nat.le_of_ble_eq_true rfl) ?_
  refine W_if_eq (tgt := 47) d_143_13 (by decide) (fun h13 => absurd h13 (fun q => bI_f q hb.1)) (fun h13 => ?_)
  refine W_iload_n d_143_16 rfl ?_
  refine W_callS d_143_17 o_143 k_7_112 (by omega) (x_142 (by omega)) rfl (Nat.le_of_ble_eq_true rfl) ?_
  refine W_if_eq (tgt := 47) d_143_20 (by decide) (fun h20 => absurd h20 (fun q => bI_f q hb.2.1)) (fun h20 => ?_)
  refine W_iload d_143_23 rfl ?_
  refine W_callS d_143_25 o_143 k_7_112 (by omega) (x_142 (by omega)) rfl (Nat.le_of_ble_eq_true rfl) ?_
  refine W_if_eq (tgt := 47) d_143_28 (by decide) (fun h28 => absurd h28 (fun q => bI_f q hb.2.2.1)) (fun h28 => ?_)
  refine W_iload d_143_31 rfl ?_
  refine W_callS d_143_33 o_143 k_7_112 (by omega) (x_142 (by omega)) rfl (Nat.le_of_ble_eq_true rfl) ?_
  refine W_if_eq (tgt := 47) d_143_36 (by decide) (fun h36 => absurd h36 (fun q => bI_f q hb.2.2.2.1)) (fun h36 => ?_)
  refine W_iload d_143_39 rfl ?_
  refine W_callS d_143_41 o_143 k_7_112 (by omega) (x_142 (by omega)) rfl (Nat.le_of_ble_eq_true rfl) ?_
  refine W_if_ne (tgt := 50) d_143_44 (by decide) (fun h44 => ?_) (fun h44 => absurd h44 (fun q => bI_f q hb.2.2.2.2))
  refine W_aload_n d_143_50 rfl (by decide) ?_
  refine W_getf d_143_51 o_143 k_7_86 rfl rfl ?_
  rw [hsz]
  refine W_iload_n d_143_54 rfl ?_
  refine W_iadd d_143_55 ?_
  rw [show ((nI sz + nI nn : Int32)) = nI (sz + nn) from nI_add sz nn]
  refine W_sipush d_143_56 (v := 160) (by decide) ?_
  refine W_icmp_le (tgt := 65) d_143_59 (by decide) (fun h59 => ?_) (fun h59 => absurd (nI_le (a := sz + nn) (b := 160) (by omega) (by omega)) h59)
  refine W_iconst d_143_65 (v := 0) (by decide) ?_
  refine W_istore d_143_66 rfl ?_
  refine lq_143 (a := a) (b := b) (c := c) (e := e) (f := f) h5 hsz hok ?_ nn 0 (by omega)
  refine W_aload_n d_143_142 rfl (by decide) ?_
  refine W_getf d_143_143 o_143 k_7_86 rfl rfl ?_
  refine W_iret d_143_146 rt_143 rfl ?_
  exact ⟨congrArg (fun z => some (Value.int z)) (tpS_11 hsz nn), rfl⟩
/-- what is kept of Y, S in Y' -/
def IMK (Y : tR) (S : Nat → Int32) (Y' : tR) : Prop := (∀ k, k < 60 → Y' 9 k = Y 2 k) ∧ (∀ k, k < 6 → Y' 9 (60 + k) = Y 3 k ∧ Y' 9 (66 + k) = Y 4 k ∧ Y' 9 (72 + k) = Y 5 k) ∧ Y' 10 0 = S 0 ∧ Y' 10 1 = S 5 ∧ Y' 10 2 = S 8 ∧ Y' 10 3 = S 9 ∧ Y' 10 4 = S 15
theorem lq_204a {d : Nat} {g : mG} {N : Nat} {P : Nat → mC} {Y0 : tR} {S0 : Nat → Int32} (hd : 0 ≤ d) {Q : Option Value → mM → Prop} (kk : ∀ (Y : tR) (S : Nat → Int32) , ((∀ k, k < 60 → Y 9 k = Y0 2 k) ∧ (∀ a, ¬ a = 9 → Y a = Y0 a) ∧ S = S0) → Wp d 204 31 [.ref 92, .int (nI 60)] [] (N, H3 g P (mm Y S)) Q) : ∀ (k i : Nat) (Y : tR) (S : Nat → Int32) , i + k = 60 → ((∀ k, k < i → Y 9 k = Y0 2 k) ∧ (∀ a, ¬ a = 9 → Y a = Y0 a) ∧ S = S0) → Wp d 204 7 [.ref 92, .int (nI i)] [] (N, H3 g P (mm Y S)) Q := by
  intro k
  induction k with
  | zero =>
    intro i Y S  hi hI
    have ei : i = 60 := by omega
    refine W_iload_n d_204_7 rfl ?_
    refine W_bipush d_204_8 (v := 60) (by decide) ?_
    refine W_icmp_ge (tgt := 31) d_204_10 (by decide) (fun h10 => ?_) (fun h10 => absurd (nI_le (a := 60) (b := i) (by omega) (by omega)) h10)
    rw [ei] at hI ⊢
    exact kk _ _ hI
  | succ k ih =>
    intro i Y S  hi hI
    refine W_iload_n d_204_7 rfl ?_
    refine W_bipush d_204_8 (v := 60) (by decide) ?_
    refine W_icmp_ge (tgt := 31) d_204_10 (by decide) (fun h10 => absurd h10 (nI_ge (a := i) (b := 60) (by omega) (by omega))) (fun h10 => ?_)
    refine W_aload_n d_204_13 rfl (by decide) ?_
    refine W_getf d_204_14 o_204 k_7_41 rfl rfl ?_
    refine W_iload_n d_204_17 rfl ?_
    refine W_aload_n d_204_18 rfl (by decide) ?_
    refine W_getf d_204_19 o_204 k_7_16 rfl rfl ?_
    refine W_iload_n d_204_22 rfl ?_
    refine W_mld (a := 2) d_204_23 rfl (by decide) (n := 60) rfl (vp_in_nI (by omega) (by decide)) (congrArg _ (nI_clamp (by omega))) ?_
    refine W_mst (a := 9) d_204_24 rfl (by decide) (n := 78) rfl (vp_in_nI (by omega) (by decide)) (nI_clamp (by omega)) ?_
    refine W_iinc (v := 1) d_204_25 rfl (by decide) rfl ?_
    rw [show ((nI i + 1 : Int32)) = nI (i + 1) from nI_add i 1]
    refine W_goto (tgt := 7) d_204_28 (by decide) ?_
    refine ih (i + 1) _ _ (by omega) ⟨fun k hk => ?_, fun a ha => (u2_row ha).trans (hI.2.1 a ha), hI.2.2⟩
    rw [u2_ap]
    by_cases e : k = i
    · rw [if_pos ⟨rfl, e⟩, e, hI.2.1 2 (by decide)]
    · rw [if_neg (fun q => e q.2)]; exact hI.1 k (by omega)
theorem lq_204b {d : Nat} {g : mG} {N : Nat} {P : Nat → mC} {Y0 : tR} {S0 : Nat → Int32} (hd : 0 ≤ d) {Q : Option Value → mM → Prop} (kk : ∀ (Y : tR) (S : Nat → Int32) , ((∀ k, k < 60 → Y 9 k = Y0 2 k) ∧ (∀ k, k < 6 → Y 9 (60 + k) = Y0 3 k ∧ Y 9 (66 + k) = Y0 4 k ∧ Y 9 (72 + k) = Y0 5 k) ∧ (∀ a, ¬ a = 9 → Y a = Y0 a) ∧ S = S0) → Wp d 204 90 [.ref 92, .int (nI 6)] [] (N, H3 g P (mm Y S)) Q) : ∀ (k i : Nat) (Y : tR) (S : Nat → Int32) , i + k = 6 → ((∀ k, k < 60 → Y 9 k = Y0 2 k) ∧ (∀ k, k < i → Y 9 (60 + k) = Y0 3 k ∧ Y 9 (66 + k) = Y0 4 k ∧ Y 9 (72 + k) = Y0 5 k) ∧ (∀ a, ¬ a = 9 → Y a = Y0 a) ∧ S = S0) → Wp d 204 33 [.ref 92, .int (nI i)] [] (N, H3 g P (mm Y S)) Q := by
  intro k
  induction k with
  | zero =>
    intro i Y S  hi hI
    have ei : i = 6 := by omega
    refine W_iload_n d_204_33 rfl ?_
    refine W_bipush d_204_34 (v := 6) (by decide) ?_
    refine W_icmp_ge (tgt := 90) d_204_36 (by decide) (fun h36 => ?_) (fun h36 => absurd (nI_le (a := 6) (b := i) (by omega) (by omega)) h36)
    rw [ei] at hI ⊢
    exact kk _ _ hI
  | succ k ih =>
    intro i Y S  hi hI
    refine W_iload_n d_204_33 rfl ?_
    refine W_bipush d_204_34 (v := 6) (by decide) ?_
    refine W_icmp_ge (tgt := 90) d_204_36 (by decide) (fun h36 => absurd h36 (nI_ge (a := i) (b := 6) (by omega) (by omega))) (fun h36 => ?_)
    refine W_aload_n d_204_39 rfl (by decide) ?_
    refine W_getf d_204_40 o_204 k_7_41 rfl rfl ?_
    refine W_bipush d_204_43 (v := 60) (by decide) ?_
    refine W_iload_n d_204_45 rfl ?_
    refine W_iadd d_204_46 ?_
    rw [show ((60 + nI i : Int32)) = nI (60 + i) from nI_add 60 i]
    refine W_aload_n d_204_47 rfl (by decide) ?_
    refine W_getf d_204_48 o_204 k_7_19 rfl rfl ?_
    refine W_iload_n d_204_51 rfl ?_
    refine W_mld (a := 3) d_204_52 rfl (by decide) (n := 6) rfl (vp_in_nI (by omega) (by decide)) ((congrArg (Y 3) (nI_clamp (by omega))).trans (congrFun (hI.2.2.1 3 (by decide)) i)) ?_
    refine W_mst (a := 9) d_204_53 rfl (by decide) (n := 78) rfl (vp_in_nI (by omega) (by decide)) (nI_clamp (by omega)) ?_
    refine W_aload_n d_204_54 rfl (by decide) ?_
    refine W_getf d_204_55 o_204 k_7_41 rfl rfl ?_
    refine W_bipush d_204_58 (v := 66) (by decide) ?_
    refine W_iload_n d_204_60 rfl ?_
    refine W_iadd d_204_61 ?_
    rw [show ((66 + nI i : Int32)) = nI (66 + i) from nI_add 66 i]
    refine W_aload_n d_204_62 rfl (by decide) ?_
    refine W_getf d_204_63 o_204 k_7_22 rfl rfl ?_
    refine W_iload_n d_204_66 rfl ?_
    refine W_mld (a := 4) d_204_67 rfl (by decide) (n := 6) rfl (vp_in_nI (by omega) (by decide)) ((congrArg (Y 4) (nI_clamp (by omega))).trans (congrFun (hI.2.2.1 4 (by decide)) i)) ?_
    refine W_mst (a := 9) d_204_68 rfl (by decide) (n := 78) rfl (vp_in_nI (by omega) (by decide)) (nI_clamp (by omega)) ?_
    refine W_aload_n d_204_69 rfl (by decide) ?_
    refine W_getf d_204_70 o_204 k_7_41 rfl rfl ?_
    refine W_bipush d_204_73 (v := 72) (by decide) ?_
    refine W_iload_n d_204_75 rfl ?_
    refine W_iadd d_204_76 ?_
    rw [show ((72 + nI i : Int32)) = nI (72 + i) from nI_add 72 i]
    refine W_aload_n d_204_77 rfl (by decide) ?_
    refine W_getf d_204_78 o_204 k_7_25 rfl rfl ?_
    refine W_iload_n d_204_81 rfl ?_
    refine W_mld (a := 5) d_204_82 rfl (by decide) (n := 6) rfl (vp_in_nI (by omega) (by decide)) ((congrArg (Y 5) (nI_clamp (by omega))).trans (congrFun (hI.2.2.1 5 (by decide)) i)) ?_
    refine W_mst (a := 9) d_204_83 rfl (by decide) (n := 78) rfl (vp_in_nI (by omega) (by decide)) (nI_clamp (by omega)) ?_
    refine W_iinc (v := 1) d_204_84 rfl (by decide) rfl ?_
    rw [show ((nI i + 1 : Int32)) = nI (i + 1) from nI_add i 1]
    refine W_goto (tgt := 33) d_204_87 (by decide) ?_
    refine ih (i + 1) _ _ (by omega) ⟨fun k hk => ?_, fun k hk => ?_, fun a ha => (u2_row ha).trans ((u2_row ha).trans ((u2_row ha).trans (hI.2.2.1 a ha))), hI.2.2.2⟩
    · rw [u2_ap, if_neg (by omega), u2_ap, if_neg (by omega), u2_ap, if_neg (by omega)]; exact hI.1 k hk
    · by_cases e : k = i
      · subst e
        refine ⟨?_, ?_, ?_⟩
        · rw [u2_ap, if_neg (by omega), u2_ap, if_neg (by omega), u2_ap, if_pos ⟨rfl, rfl⟩]
        · rw [u2_ap, if_neg (by omega), u2_ap, if_pos ⟨rfl, rfl⟩]
        · rw [u2_ap, if_pos ⟨rfl, rfl⟩]
      · have q := hI.2.1 k (by omega)
        refine ⟨?_, ?_, ?_⟩
        · rw [u2_ap, if_neg (by omega), u2_ap, if_neg (by omega), u2_ap, if_neg (by omega)]; exact q.1
        · rw [u2_ap, if_neg (by omega), u2_ap, if_neg (by omega), u2_ap, if_neg (by omega)]; exact q.2.1
        · rw [u2_ap, if_neg (by omega), u2_ap, if_neg (by omega), u2_ap, if_neg (by omega)]; exact q.2.2
theorem q_204 {d : Nat} {g : mG} {N : Nat} {P : Nat → mC} {Y : tR} {S : Nat → Int32} (hd : 0 ≤ d) : Wp d 204 0 (ment 204 [.ref 92]) [] (N, H3 g P (mm Y S)) (fun v M' => v = some (.int (S 0)) ∧ ∃ Y', M' = (N, H3 g P (mm Y' (va_up S 16 1))) ∧ IMK Y S Y' ∧ ∀ i, ¬ (i = 9 ∨ i = 10) → Y' i = Y i) := by
  show Wp _ 204 0 [.ref 92, .null] [] _ _
  refine W_aload_n d_204_0 rfl (by decide) ?_
  refine W_iconst d_204_1 (v := 1) (by decide) ?_
  refine W_putf d_204_2 o_204 k_7_285 rfl (Nat.le_of_ble_eq_true rfl) rfl mm_s16 ?_
  refine W_iconst d_204_5 (v := 0) (by decide) ?_
  refine W_istore_n d_204_6 rfl ?_
  refine lq_204a (Y0 := Y) (S0 := va_up S 16 1) (Nat.zero_le _) (fun Y1 S1 h1 => ?_) 60 0 _ _ (by omega) ⟨fun k hk => absurd hk (by omega), fun _ _ => rfl, rfl⟩
  refine W_iconst d_204_31 (v := 0) (by decide) ?_
  refine W_istore_n d_204_32 rfl ?_
  refine lq_204b (Y0 := Y) (S0 := va_up S 16 1) (Nat.zero_le _) (fun Y2 S2 h2 => ?_) 6 0 _ _ (by omega) ⟨h1.1, fun k hk => absurd hk (by omega), h1.2.1, h1.2.2⟩
  obtain ⟨b1, b2, b3, b4⟩ := h2
  subst b4
  refine W_aload_n d_204_90 rfl (by decide) ?_
  refine W_getf d_204_91 o_204 k_7_44 rfl rfl ?_
  refine W_iconst d_204_94 (v := 0) (by decide) ?_
  refine W_aload_n d_204_95 rfl (by decide) ?_
  refine W_getf d_204_96 o_204 k_7_93 rfl rfl ?_
  refine W_mst (a := 10) d_204_99 rfl (by decide) (n := 5) rfl (vp_in_nI (n := 0) (by decide) (by decide)) (show (0 : Int32).toNatClampNeg = 0 from rfl) ?_
  refine W_aload_n d_204_100 rfl (by decide) ?_
  refine W_getf d_204_101 o_204 k_7_44 rfl rfl ?_
  refine W_iconst d_204_104 (v := 1) (by decide) ?_
  refine W_aload_n d_204_105 rfl (by decide) ?_
  refine W_getf d_204_106 o_204 k_7_100 rfl rfl ?_
  refine W_mst (a := 10) d_204_109 rfl (by decide) (n := 5) rfl (vp_in_nI (n := 1) (by decide) (by decide)) (show (1 : Int32).toNatClampNeg = 1 from rfl) ?_
  refine W_aload_n d_204_110 rfl (by decide) ?_
  refine W_getf d_204_111 o_204 k_7_44 rfl rfl ?_
  refine W_iconst d_204_114 (v := 2) (by decide) ?_
  refine W_aload_n d_204_115 rfl (by decide) ?_
  refine W_getf d_204_116 o_204 k_7_103 rfl rfl ?_
  refine W_mst (a := 10) d_204_119 rfl (by decide) (n := 5) rfl (vp_in_nI (n := 2) (by decide) (by decide)) (show (2 : Int32).toNatClampNeg = 2 from rfl) ?_
  refine W_aload_n d_204_120 rfl (by decide) ?_
  refine W_getf d_204_121 o_204 k_7_44 rfl rfl ?_
  refine W_iconst d_204_124 (v := 3) (by decide) ?_
  refine W_aload_n d_204_125 rfl (by decide) ?_
  refine W_getf d_204_126 o_204 k_7_28 rfl rfl ?_
  refine W_mst (a := 10) d_204_129 rfl (by decide) (n := 5) rfl (vp_in_nI (n := 3) (by decide) (by decide)) (show (3 : Int32).toNatClampNeg = 3 from rfl) ?_
  refine W_aload_n d_204_130 rfl (by decide) ?_
  refine W_getf d_204_131 o_204 k_7_44 rfl rfl ?_
  refine W_iconst d_204_134 (v := 4) (by decide) ?_
  refine W_aload_n d_204_135 rfl (by decide) ?_
  refine W_getf d_204_136 o_204 k_7_109 rfl rfl ?_
  refine W_mst (a := 10) d_204_139 rfl (by decide) (n := 5) rfl (vp_in_nI (n := 4) (by decide) (by decide)) (show (4 : Int32).toNatClampNeg = 4 from rfl) ?_
  refine W_aload_n d_204_140 rfl (by decide) ?_
  refine W_getf d_204_141 o_204 k_7_93 rfl rfl ?_
  refine W_iret d_204_144 rt_204 rfl ?_
  refine ⟨rfl, _, rfl, ⟨fun k hk => ?_, fun k hk => ?_, rfl, rfl, rfl, rfl, rfl⟩, fun i hi => ?_⟩
  · rw [u2_row (by decide), u2_row (by decide), u2_row (by decide), u2_row (by decide), u2_row (by decide)]; exact b1 k hk
  · rw [u2_row (by decide), u2_row (by decide), u2_row (by decide), u2_row (by decide), u2_row (by decide)]; exact b2 k hk
  · rw [u2_row (by omega), u2_row (by omega), u2_row (by omega), u2_row (by omega), u2_row (by omega)]; exact b3 i (by omega)
theorem q_205a {d : Nat} {g : mG} {N : Nat} {P : Nat → mC} {Y : tR} {S : Nat → Int32} (hk : S 16 = 0) (hd : 0 ≤ d) : Ex d 205 [.ref 92] (N, H3 g P (mm Y S)) (some (.int (-3))) (N, H3 g P (mm Y S)) := by
  refine Ex.of ?_
  show Wp _ 205 0 [.ref 92, .null] [] _ _
  refine W_aload_n d_205_0 rfl (by decide) ?_
  refine W_getf d_205_1 o_205 k_7_285 rfl rfl ?_
  refine W_if_ne (tgt := 10) d_205_4 (by decide) (fun h4 => absurd hk h4) (fun h4 => ?_)
  refine W_bipush d_205_7 (v := (-3)) (by decide) ?_
  refine W_iret d_205_9 rt_205 rfl ?_
  exact ⟨rfl, rfl⟩
theorem lq_205a {d : Nat} {g : mG} {N : Nat} {P : Nat → mC} {Y0 : tR} {S0 : Nat → Int32} (hd : 0 ≤ d) {Q : Option Value → mM → Prop} (kk : ∀ (Y : tR) (S : Nat → Int32) , ((∀ k, k < 60 → Y 2 k = Y0 9 k) ∧ (∀ a, ¬ a = 2 → Y a = Y0 a) ∧ S = S0) → Wp d 205 36 [.ref 92, .int (nI 60)] [] (N, H3 g P (mm Y S)) Q) : ∀ (k i : Nat) (Y : tR) (S : Nat → Int32) , i + k = 60 → ((∀ k, k < i → Y 2 k = Y0 9 k) ∧ (∀ a, ¬ a = 2 → Y a = Y0 a) ∧ S = S0) → Wp d 205 12 [.ref 92, .int (nI i)] [] (N, H3 g P (mm Y S)) Q := by
  intro k
  induction k with
  | zero =>
    intro i Y S  hi hI
    have ei : i = 60 := by omega
    refine W_iload_n d_205_12 rfl ?_
    refine W_bipush d_205_13 (v := 60) (by decide) ?_
    refine W_icmp_ge (tgt := 36) d_205_15 (by decide) (fun h15 => ?_) (fun h15 => absurd (nI_le (a := 60) (b := i) (by omega) (by omega)) h15)
    rw [ei] at hI ⊢
    exact kk _ _ hI
  | succ k ih =>
    intro i Y S  hi hI
    refine W_iload_n d_205_12 rfl ?_
    refine W_bipush d_205_13 (v := 60) (by decide) ?_
    refine W_icmp_ge (tgt := 36) d_205_15 (by decide) (fun h15 => absurd h15 (nI_ge (a := i) (b := 60) (by omega) (by omega))) (fun h15 => ?_)
    refine W_aload_n d_205_18 rfl (by decide) ?_
    refine W_getf d_205_19 o_205 k_7_16 rfl rfl ?_
    refine W_iload_n d_205_22 rfl ?_
    refine W_aload_n d_205_23 rfl (by decide) ?_
    refine W_getf d_205_24 o_205 k_7_41 rfl rfl ?_
    refine W_iload_n d_205_27 rfl ?_
    refine W_mld (a := 9) d_205_28 rfl (by decide) (n := 78) rfl (vp_in_nI (by omega) (by decide)) (congrArg _ (nI_clamp (by omega))) ?_
    refine W_mst (a := 2) d_205_29 rfl (by decide) (n := 60) rfl (vp_in_nI (by omega) (by decide)) (nI_clamp (by omega)) ?_
    refine W_iinc (v := 1) d_205_30 rfl (by decide) rfl ?_
    rw [show ((nI i + 1 : Int32)) = nI (i + 1) from nI_add i 1]
    refine W_goto (tgt := 12) d_205_33 (by decide) ?_
    refine ih (i + 1) _ _ (by omega) ⟨fun k hk => ?_, fun a ha => (u2_row ha).trans (hI.2.1 a ha), hI.2.2⟩
    rw [u2_ap]
    by_cases e : k = i
    · rw [if_pos ⟨rfl, e⟩, e, hI.2.1 9 (by decide)]
    · rw [if_neg (fun q => e q.2)]; exact hI.1 k (by omega)
theorem lq_205b {d : Nat} {g : mG} {N : Nat} {P : Nat → mC} {Y0 : tR} {S0 : Nat → Int32} (hd : 0 ≤ d) {Q : Option Value → mM → Prop} (kk : ∀ (Y : tR) (S : Nat → Int32) , ((∀ k, k < 60 → Y 2 k = Y0 9 k) ∧ (∀ k, k < 6 → Y 3 k = Y0 9 (60 + k) ∧ Y 4 k = Y0 9 (66 + k) ∧ Y 5 k = Y0 9 (72 + k)) ∧ (∀ a, ¬ (a = 2 ∨ a = 3 ∨ a = 4 ∨ a = 5) → Y a = Y0 a) ∧ S = S0) → Wp d 205 95 [.ref 92, .int (nI 6)] [] (N, H3 g P (mm Y S)) Q) : ∀ (k i : Nat) (Y : tR) (S : Nat → Int32) , i + k = 6 → ((∀ k, k < 60 → Y 2 k = Y0 9 k) ∧ (∀ k, k < i → Y 3 k = Y0 9 (60 + k) ∧ Y 4 k = Y0 9 (66 + k) ∧ Y 5 k = Y0 9 (72 + k)) ∧ (∀ a, ¬ (a = 2 ∨ a = 3 ∨ a = 4 ∨ a = 5) → Y a = Y0 a) ∧ S = S0) → Wp d 205 38 [.ref 92, .int (nI i)] [] (N, H3 g P (mm Y S)) Q := by
  intro k
  induction k with
  | zero =>
    intro i Y S  hi hI
    have ei : i = 6 := by omega
    refine W_iload_n d_205_38 rfl ?_
    refine W_bipush d_205_39 (v := 6) (by decide) ?_
    refine W_icmp_ge (tgt := 95) d_205_41 (by decide) (fun h41 => ?_) (fun h41 => absurd (nI_le (a := 6) (b := i) (by omega) (by omega)) h41)
    rw [ei] at hI ⊢
    exact kk _ _ hI
  | succ k ih =>
    intro i Y S  hi hI
    refine W_iload_n d_205_38 rfl ?_
    refine W_bipush d_205_39 (v := 6) (by decide) ?_
    refine W_icmp_ge (tgt := 95) d_205_41 (by decide) (fun h41 => absurd h41 (nI_ge (a := i) (b := 6) (by omega) (by omega))) (fun h41 => ?_)
    refine W_aload_n d_205_44 rfl (by decide) ?_
    refine W_getf d_205_45 o_205 k_7_19 rfl rfl ?_
    refine W_iload_n d_205_48 rfl ?_
    refine W_aload_n d_205_49 rfl (by decide) ?_
    refine W_getf d_205_50 o_205 k_7_41 rfl rfl ?_
    refine W_bipush d_205_53 (v := 60) (by decide) ?_
    refine W_iload_n d_205_55 rfl ?_
    refine W_iadd d_205_56 ?_
    rw [show ((60 + nI i : Int32)) = nI (60 + i) from nI_add 60 i]
    refine W_mld (a := 9) d_205_57 rfl (by decide) (n := 78) rfl (vp_in_nI (by omega) (by decide)) ((congrArg (Y 9) (nI_clamp (by omega))).trans (congrFun (hI.2.2.1 9 (by decide)) (60 + i))) ?_
    refine W_mst (a := 3) d_205_58 rfl (by decide) (n := 6) rfl (vp_in_nI (by omega) (by decide)) (nI_clamp (by omega)) ?_
    refine W_aload_n d_205_59 rfl (by decide) ?_
    refine W_getf d_205_60 o_205 k_7_22 rfl rfl ?_
    refine W_iload_n d_205_63 rfl ?_
    refine W_aload_n d_205_64 rfl (by decide) ?_
    refine W_getf d_205_65 o_205 k_7_41 rfl rfl ?_
    refine W_bipush d_205_68 (v := 66) (by decide) ?_
    refine W_iload_n d_205_70 rfl ?_
    refine W_iadd d_205_71 ?_
    rw [show ((66 + nI i : Int32)) = nI (66 + i) from nI_add 66 i]
    refine W_mld (a := 9) d_205_72 rfl (by decide) (n := 78) rfl (vp_in_nI (by omega) (by decide)) ((congrArg (Y 9) (nI_clamp (by omega))).trans (congrFun (hI.2.2.1 9 (by decide)) (66 + i))) ?_
    refine W_mst (a := 4) d_205_73 rfl (by decide) (n := 6) rfl (vp_in_nI (by omega) (by decide)) (nI_clamp (by omega)) ?_
    refine W_aload_n d_205_74 rfl (by decide) ?_
    refine W_getf d_205_75 o_205 k_7_25 rfl rfl ?_
    refine W_iload_n d_205_78 rfl ?_
    refine W_aload_n d_205_79 rfl (by decide) ?_
    refine W_getf d_205_80 o_205 k_7_41 rfl rfl ?_
    refine W_bipush d_205_83 (v := 72) (by decide) ?_
    refine W_iload_n d_205_85 rfl ?_
    refine W_iadd d_205_86 ?_
    rw [show ((72 + nI i : Int32)) = nI (72 + i) from nI_add 72 i]
    refine W_mld (a := 9) d_205_87 rfl (by decide) (n := 78) rfl (vp_in_nI (by omega) (by decide)) ((congrArg (Y 9) (nI_clamp (by omega))).trans (congrFun (hI.2.2.1 9 (by decide)) (72 + i))) ?_
    refine W_mst (a := 5) d_205_88 rfl (by decide) (n := 6) rfl (vp_in_nI (by omega) (by decide)) (nI_clamp (by omega)) ?_
    refine W_iinc (v := 1) d_205_89 rfl (by decide) rfl ?_
    rw [show ((nI i + 1 : Int32)) = nI (i + 1) from nI_add i 1]
    refine W_goto (tgt := 38) d_205_92 (by decide) ?_
    refine ih (i + 1) _ _ (by omega) ⟨fun k hk => ?_, fun k hk => ?_, fun a ha => (u2_row (by omega)).trans ((u2_row (by omega)).trans ((u2_row (by omega)).trans (hI.2.2.1 a ha))), hI.2.2.2⟩
    · rw [u2_row (by decide), u2_row (by decide), u2_row (by decide)]; exact hI.1 k hk
    · have q := hI.2.1 k
      refine ⟨?_, ?_, ?_⟩
      · rw [u2_row (show ¬ 3 = 5 by decide), u2_row (show ¬ 3 = 4 by decide), u2_ap]
        by_cases e : k = i
        · rw [if_pos ⟨rfl, e⟩, e]
        · rw [if_neg (fun t => e t.2)]; exact (q (by omega)).1
      · rw [u2_row (show ¬ 4 = 5 by decide), u2_ap]
        by_cases e : k = i
        · rw [if_pos ⟨rfl, e⟩, e]
        · rw [if_neg (fun t => e t.2), u2_row (show ¬ 4 = 3 by decide)]; exact (q (by omega)).2.1
      · rw [u2_ap]
        by_cases e : k = i
        · rw [if_pos ⟨rfl, e⟩, e]
        · rw [if_neg (fun t => e t.2), u2_row (show ¬ 5 = 4 by decide), u2_row (show ¬ 5 = 3 by decide)]; exact (q (by omega)).2.2
theorem q_205 {d : Nat} {g : mG} {N : Nat} {P : Nat → mC} {Y : tR} {S : Nat → Int32} (hk : ¬ S 16 = 0) (hd : 0 ≤ d) : Wp d 205 0 (ment 205 [.ref 92]) [] (N, H3 g P (mm Y S)) (fun v M' => v = some (.int (Y 10 0)) ∧ ∃ Y' S', M' = (N, H3 g P (mm Y' S')) ∧ (∀ k, k < 60 → Y' 2 k = Y 9 k) ∧ (∀ k, k < 6 → Y' 3 k = Y 9 (60 + k) ∧ Y' 4 k = Y 9 (66 + k) ∧ Y' 5 k = Y 9 (72 + k)) ∧ (∀ a, ¬ (a = 2 ∨ a = 3 ∨ a = 4 ∨ a = 5) → Y' a = Y a) ∧ S' 0 = Y 10 0 ∧ S' 5 = Y 10 1 ∧ S' 8 = Y 10 2 ∧ S' 9 = Y 10 3 ∧ S' 15 = Y 10 4 ∧ ∀ j, ¬ (j = 0 ∨ j = 5 ∨ j = 8 ∨ j = 9 ∨ j = 15) → S' j = S j) := by
  show Wp _ 205 0 [.ref 92, .null] [] _ _
  refine W_aload_n d_205_0 rfl (by decide) ?_
  refine W_getf d_205_1 o_205 k_7_285 rfl rfl ?_
  refine W_if_ne (tgt := 10) d_205_4 (by decide) (fun h4 => ?_) (fun h4 => absurd h4 hk)
  refine W_iconst d_205_10 (v := 0) (by decide) ?_
  refine W_istore_n d_205_11 rfl ?_
  refine lq_205a (Y0 := Y) (S0 := S) (Nat.zero_le _) (fun Y1 S1 h1 => ?_) 60 0 _ _ (by omega) ⟨fun k hk => absurd hk (by omega), fun _ _ => rfl, rfl⟩
  refine W_iconst d_205_36 (v := 0) (by decide) ?_
  refine W_istore_n d_205_37 rfl ?_
  refine lq_205b (Y0 := Y) (S0 := S) (Nat.zero_le _) (fun Y2 S2 h2 => ?_) 6 0 _ _ (by omega) ⟨h1.1, fun k hk => absurd hk (by omega), fun a ha => h1.2.1 a (by omega), h1.2.2⟩
  obtain ⟨b1, b2, b3, b4⟩ := h2
  subst b4
  have b10 := b3 10 (by decide)
  refine W_aload_n d_205_95 rfl (by decide) ?_
  refine W_aload_n d_205_96 rfl (by decide) ?_
  refine W_getf d_205_97 o_205 k_7_44 rfl rfl ?_
  refine W_iconst d_205_100 (v := 0) (by decide) ?_
  refine W_mld (a := 10) d_205_101 rfl (by decide) (n := 5) rfl (vp_in_nI (n := 0) (by decide) (by decide)) ((show Y2 10 ((0 : Int32).toNatClampNeg) = Y2 10 0 from rfl).trans (congrFun b10 0)) ?_
  refine W_putf d_205_102 o_205 k_7_93 rfl (Nat.le_of_ble_eq_true rfl) rfl mm_s0 ?_
  refine W_aload_n d_205_105 rfl (by decide) ?_
  refine W_aload_n d_205_106 rfl (by decide) ?_
  refine W_getf d_205_107 o_205 k_7_44 rfl rfl ?_
  refine W_iconst d_205_110 (v := 1) (by decide) ?_
  refine W_mld (a := 10) d_205_111 rfl (by decide) (n := 5) rfl (vp_in_nI (n := 1) (by decide) (by decide)) ((show Y2 10 ((1 : Int32).toNatClampNeg) = Y2 10 1 from rfl).trans (congrFun b10 1)) ?_
  refine W_putf d_205_112 o_205 k_7_100 rfl (Nat.le_of_ble_eq_true rfl) rfl mm_s5 ?_
  refine W_aload_n d_205_115 rfl (by decide) ?_
  refine W_aload_n d_205_116 rfl (by decide) ?_
  refine W_getf d_205_117 o_205 k_7_44 rfl rfl ?_
  refine W_iconst d_205_120 (v := 2) (by decide) ?_
  refine W_mld (a := 10) d_205_121 rfl (by decide) (n := 5) rfl (vp_in_nI (n := 2) (by decide) (by decide)) ((show Y2 10 ((2 : Int32).toNatClampNeg) = Y2 10 2 from rfl).trans (congrFun b10 2)) ?_
  refine W_putf d_205_122 o_205 k_7_103 rfl (Nat.le_of_ble_eq_true rfl) rfl mm_s8 ?_
  refine W_aload_n d_205_125 rfl (by decide) ?_
  refine W_aload_n d_205_126 rfl (by decide) ?_
  refine W_getf d_205_127 o_205 k_7_44 rfl rfl ?_
  refine W_iconst d_205_130 (v := 3) (by decide) ?_
  refine W_mld (a := 10) d_205_131 rfl (by decide) (n := 5) rfl (vp_in_nI (n := 3) (by decide) (by decide)) ((show Y2 10 ((3 : Int32).toNatClampNeg) = Y2 10 3 from rfl).trans (congrFun b10 3)) ?_
  refine W_putf d_205_132 o_205 k_7_28 rfl (Nat.le_of_ble_eq_true rfl) rfl mm_s9 ?_
  refine W_aload_n d_205_135 rfl (by decide) ?_
  refine W_aload_n d_205_136 rfl (by decide) ?_
  refine W_getf d_205_137 o_205 k_7_44 rfl rfl ?_
  refine W_iconst d_205_140 (v := 4) (by decide) ?_
  refine W_mld (a := 10) d_205_141 rfl (by decide) (n := 5) rfl (vp_in_nI (n := 4) (by decide) (by decide)) ((show Y2 10 ((4 : Int32).toNatClampNeg) = Y2 10 4 from rfl).trans (congrFun b10 4)) ?_
  refine W_putf d_205_142 o_205 k_7_109 rfl (Nat.le_of_ble_eq_true rfl) rfl mm_s15 ?_
  refine W_aload_n d_205_145 rfl (by decide) ?_
  refine W_getf d_205_146 o_205 k_7_93 rfl rfl ?_
  refine W_iret d_205_149 rt_205 rfl ?_
  exact ⟨rfl, Y2, _, rfl, b1, b2, b3, rfl, rfl, rfl, rfl, rfl, fun j hj => (va_oth _ _ (by omega)).trans ((va_oth _ _ (by omega)).trans ((va_oth _ _ (by omega)).trans ((va_oth _ _ (by omega)).trans (va_oth _ _ (by omega)))))⟩
