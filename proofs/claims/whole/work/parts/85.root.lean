/-! CONSTRUCTORS: the class's root, up to its texts (wip/whole/gen85.py) -/
def z_A : Nat → tR := fun _ a b => if a = 12 ∧ b = 3 then 10 else 0
def z_T : Nat → tR := fun _ _ _ => 0
def z_K : Nat → tR := fun _ a b => if a = 1 ∧ b = 0 then -1 else 0
def z_B : tR := fun a b => if a = 1 ∧ b = 5 then -1 else 0
def z_E : Nat → Int32 := fun _ => 0
def z_G : tR := fun _ _ => 0
def hk : Nat → mC := cc z_A z_T z_K z_B z_E 0 z_G
def rooT : mC := .inr (.inr (6, rtF z_E))
section
variable {d : Nat} {g : mG} {x y : mC}
theorem k3 (g : mG) {k : Nat} (h : k < 92) : hk k = H3 g hk (fun _ => mdead) k := (h3_lt h).symm
theorem k_road {r : Nat} (hr : r < 3) : hk (rb r) = .inr (.inr (4, [.ref (rb r + 1), .int 0, .ref (rb r + 2), .ref (rb r + 3), .ref (rb r + 4), .int 0, .int 0, .int 10, .int 0, .int 0, .ref (rb r + 5)])) := by
  have : r = 0 ∨ r = 1 ∨ r = 2 := by omega
  rcases this with rfl | rfl | rfl <;> rfl
theorem k_owners {r : Nat} (hr : r < 3) : hk (rb r + 1) = .inr (.inl (2, 12, owf (rb r))) := by
  have : r = 0 ∨ r = 1 ∨ r = 2 := by omega
  rcases this with rfl | rfl | rfl <;> rfl
theorem k_rows {r i : Nat} (hr : r < 3) (hi : 2 ≤ i ∧ i < 6) : hk (rb r + i) = .inl (0, 6, fun _ => 0) := by
  have : r = 0 ∨ r = 1 ∨ r = 2 := by omega
  have h2 : i = 2 ∨ i = 3 ∨ i = 4 ∨ i = 5 := by omega
  rcases this with rfl | rfl | rfl <;> rcases h2 with rfl | rfl | rfl | rfl <;> rfl
theorem k_owner (g : mG) {r j : Nat} (hr : r < 3) (hj : j < 12) : hk (rb r + 6 + j) = .inr (.inr (2, Dft 2)) :=
  (k3 g (by unfold rb; omega)).trans ((h_owner hr hj).trans rfl)
theorem k_law {t : Nat} (ht : t < 6) : hk (lb t) = .inr (.inr (0, [.ref (lb t + 1), .ref (lb t + 2), .ref (lb t + 3), .int 0])) := by
  have : t = 0 ∨ t = 1 ∨ t = 2 ∨ t = 3 ∨ t = 4 ∨ t = 5 := by omega
  rcases this with rfl | rfl | rfl | rfl | rfl | rfl <;> rfl
theorem k_law1 {t : Nat} (ht : t < 6) : hk (lb t + 1) = .inl (0, 160, fun _ => 0) ∧ hk (lb t + 2) = .inl (0, 4, fun _ => 0) ∧ hk (lb t + 3) = .inl (0, 160, fun _ => 0) := by
  have : t = 0 ∨ t = 1 ∨ t = 2 ∨ t = 3 ∨ t = 4 ∨ t = 5 := by omega
  rcases this with rfl | rfl | rfl | rfl | rfl | rfl <;> exact ⟨rfl, rfl, rfl⟩
theorem k_sheet {s : Nat} (hs : s < 4) : hk (sb s) = .inr (.inr (5, [.int (-1), .int 0, .ref (sb s + 1)])) ∧ hk (sb s + 1) = .inl (0, 40, fun _ => 0) := by
  have : s = 0 ∨ s = 1 ∨ s = 2 ∨ s = 3 := by omega
  rcases this with rfl | rfl | rfl | rfl <;> exact ⟨rfl, rfl⟩
theorem i_55 {r : Nat} (hr : r < 3) (hd : 1 ≤ d) : Ex d 55 [.ref (rb r)] (HF g (rb r + 1) (va_up (va_up hk 0 x) (rb r) (.inr (.inr (4, Dft 4))))) none (HF g (rb r + 18) (va_up hk 0 x)) := by
  have hb : rb r = 1 + 18 * r := rfl
  exact x_55 hd (by omega) ((va_oth _ _ (by omega)).trans (k_road hr)) ((va_oth _ _ (by omega)).trans (k_owners hr)) ((va_oth _ _ (by omega)).trans (k_rows hr (by decide))) ((va_oth _ _ (by omega)).trans (k_rows hr (by decide))) ((va_oth _ _ (by omega)).trans (k_rows hr (by decide))) ((va_oth _ _ (by omega)).trans (k_rows hr (by decide))) (fun j hj => (va_oth _ _ (by omega)).trans (k_owner g hr hj))
theorem i_35 : Ex d 35 [.ref 55] (HF g 56 (va_up (va_up hk 0 x) 55 (.inr (.inr (3, Dft 3))))) none (HF g 57 (va_up hk 0 x)) := x_35 (b := 55) (by decide) ((va_oth _ _ (by decide)).trans rfl) ((va_oth _ _ (by decide)).trans rfl)
theorem i_15 {t : Nat} (ht : t < 6) : Ex d 15 [.ref (lb t)] (HF g (lb t + 1) (va_up (va_up (va_up hk 57 x) 58 y) (lb t) (.inr (.inr (0, Dft 0))))) none (HF g (lb t + 4) (va_up (va_up hk 57 x) 58 y)) := by
  have hb : lb t = 60 + 4 * t := rfl
  have k1 := k_law1 ht
  exact x_15 (by omega) ((va_oth _ _ (by omega)).trans ((va_oth _ _ (by omega)).trans (k_law ht))) ((va_oth _ _ (by omega)).trans ((va_oth _ _ (by omega)).trans k1.1)) ((va_oth _ _ (by omega)).trans ((va_oth _ _ (by omega)).trans k1.2.1)) ((va_oth _ _ (by omega)).trans ((va_oth _ _ (by omega)).trans k1.2.2))
theorem i_77 {s : Nat} (hs : s < 4) : Ex d 77 [.ref (sb s)] (HF g (sb s + 1) (va_up (va_up hk 58 y) (sb s) (.inr (.inr (5, Dft 5))))) none (HF g (sb s + 2) (va_up hk 58 y)) := by
  have hb : sb s = 84 + 2 * s := rfl
  have k1 := k_sheet hs
  exact x_77 (by omega) ((va_oth _ _ (by omega)).trans k1.1) ((va_oth _ _ (by omega)).trans k1.2)
def txg : Nat → Nat → Option Nat
  | 0 => fun _ => none
  | j + 1 => va_up (txg j) j (some (lb j))
theorem txg_v : ∀ j k, txg j k = if k < j then some (lb k) else none
  | 0, k => (if_neg (Nat.not_lt_zero k)).symm
  | j + 1, k => by
    show va_up (txg j) j (some (lb j)) k = _
    by_cases q : k = j
    · subst q
      rw [va_same, if_pos (Nat.lt_succ_self _)]
    · rw [va_oth _ _ q, txg_v j k]
      by_cases q2 : k < j
      · rw [if_pos q2, if_pos (by omega)]
      · rw [if_neg q2, if_neg (by omega)]
def shg : Nat → Nat → Option Nat
  | 0 => fun _ => none
  | j + 1 => va_up (shg j) j (some (sb j))
theorem shg_v : ∀ j k, shg j k = if k < j then some (sb k) else none
  | 0, k => (if_neg (Nat.not_lt_zero k)).symm
  | j + 1, k => by
    show va_up (shg j) j (some (sb j)) k = _
    by_cases q : k = j
    · subst q
      rw [va_same, if_pos (Nat.lt_succ_self _)]
    · rw [va_oth _ _ q, shg_v j k]
      by_cases q2 : k < j
      · rw [if_pos q2, if_pos (by omega)]
      · rw [if_neg q2, if_neg (by omega)]
theorem k_57 : hk 57 = .inr (.inl (0, 6, txg 6)) := by
  rw [show txg 6 = txa from funext fun k => txg_v 6 k]
  rfl
theorem k_58 : hk 58 = .inr (.inl (5, 4, shg 4)) := by
  rw [show shg 4 = sha from funext fun k => shg_v 4 k]
  rfl
theorem HF_92 : HF g 92 hk = (92, H3 g hk (ro g)) := by
  refine congrArg (Prod.mk 92) (funext fun k => ?_)
  show (if k < 92 then hk k else ro g k) = if k < 92 then hk k else if k < 117 then ro g k else ro g k
  by_cases q : k < 92
  · rw [if_pos q, if_pos q]
  · rw [if_neg q, if_neg q]
    by_cases q2 : k < 117
    · rw [if_pos q2]
    · rw [if_neg q2]
theorem lp_83a (hd : 1 ≤ d) {Q : Option Value → mM → Prop} (kk : Wp d 83 108 [.ref 0, .int 0] [] (HF g 84 (va_up hk 58 (.inr (.inl (5, 4, shg 0))))) Q) : ∀ (k t : Nat), t + k = 6 → Wp d 83 78 [.ref 0, .int (nI t)] [] (HF g (60 + 4 * t) (va_up (va_up hk 57 (.inr (.inl (0, 6, txg t)))) 58 (.inr (.inl (5, 4, shg 0))))) Q := by
  intro k
  induction k with
  | zero =>
    intro t h6
    have et : t = 6 := by omega
    refine W_iload_n d_83_78 rfl ?_
    refine W_aload_n d_83_79 rfl (by decide) ?_
    refine W_getf d_83_80 o_83 k_6_31 ((HF_get (by omega)).trans ((va_oth _ _ (by decide)).trans ((va_oth _ _ (by decide)).trans (rfl : hk 0 = rooT)))) rfl ?_
    refine W_alen (n := 6) (v := 6) d_83_83 ((congrArg mlen ((HF_get (by omega)).trans ((va_oth _ _ (by decide)).trans (va_same _ _ _)))).trans rfl) (by decide) ?_
    refine W_icmp_ge (tgt := 106) d_83_84 (by decide) (fun _ => ?_) (fun q => absurd (nI_le (a := 6) (b := t) (by omega) (by omega)) q)
    subst et
    refine W_iconst d_83_106 (v := 0) (by decide) ?_
    refine W_istore_n d_83_107 rfl ?_
    rw [ov_end k_57]
    exact kk
  | succ k ih =>
    intro t h6
    refine W_iload_n d_83_78 rfl ?_
    refine W_aload_n d_83_79 rfl (by decide) ?_
    refine W_getf d_83_80 o_83 k_6_31 ((HF_get (by omega)).trans ((va_oth _ _ (by decide)).trans ((va_oth _ _ (by decide)).trans (rfl : hk 0 = rooT)))) rfl ?_
    refine W_alen (n := 6) (v := 6) d_83_83 ((congrArg mlen ((HF_get (by omega)).trans ((va_oth _ _ (by decide)).trans (va_same _ _ _)))).trans rfl) (by decide) ?_
    refine W_icmp_ge (tgt := 106) d_83_84 (by decide) (fun q => absurd q (nI_ge (a := t) (b := 6) (by omega) (by omega))) (fun _ => ?_)
    refine W_aload_n d_83_87 rfl (by decide) ?_
    refine W_getf d_83_88 o_83 k_6_31 ((HF_get (by omega)).trans ((va_oth _ _ (by decide)).trans ((va_oth _ _ (by decide)).trans (rfl : hk 0 = rooT)))) rfl ?_
    refine W_iload_n d_83_91 rfl ?_
    refine W_new d_83_92 o_83 k_6_65565 (show 60 + 4 * t < 1000 by omega) HF_pushN ?_
    show Wp _ _ _ _ (.ref (lb t) :: _) (HF g (lb t + 1) (va_up (va_up (va_up hk 57 (.inr (.inl (0, 6, txg t)))) 58 (.inr (.inl (5, 4, shg 0)))) (lb t) (.inr (.inr (0, Dft 0))))) _
    refine W_dup d_83_95 rfl ?_
    have hb : lb t = 60 + 4 * t := rfl
    refine W_callI d_83_96 o_83 (Or.inr k_6_48) (by omega) (i_15 (by omega)) rfl (show lb t < 1000 by omega) rfl (Nat.le_of_ble_eq_true rfl) ?_
    refine W_aast d_83_99 ((HF_get (by omega)).trans ((va_oth _ _ (by decide)).trans (va_same _ _ _))) ((HF_get (by omega)).trans ((va_oth _ _ (by omega)).trans ((va_oth _ _ (by omega)).trans (k_law (by omega))))) (vp_in_nI (by omega) (by decide)) ((HF_set (by omega)).trans (congrArg (HF g _) (ov2 (by decide)))) ?_
    rw [nI_clamp (by omega)]
    refine W_iinc (v := 1) d_83_100 rfl (by decide) rfl ?_
    rw [show ((nI t + 1 : Int32)) = nI (t + 1) from nI_add t 1, show lb t + 4 = 60 + 4 * (t + 1) by omega]
    refine W_goto (tgt := 78) d_83_103 (by decide) ?_
    exact ih (t + 1) (by omega)
theorem lp_83b (hd : 1 ≤ d) {Q : Option Value → mM → Prop} (kk : Wp d 83 138 [.ref 0, .int 0] [] (HF g 92 hk) Q) : ∀ (k s : Nat), s + k = 4 → Wp d 83 108 [.ref 0, .int (nI s)] [] (HF g (84 + 2 * s) (va_up hk 58 (.inr (.inl (5, 4, shg s))))) Q := by
  intro k
  induction k with
  | zero =>
    intro s h4
    have es : s = 4 := by omega
    refine W_iload_n d_83_108 rfl ?_
    refine W_aload_n d_83_109 rfl (by decide) ?_
    refine W_getf d_83_110 o_83 k_6_37 ((HF_get (by omega)).trans ((va_oth _ _ (by decide)).trans (rfl : hk 0 = rooT))) rfl ?_
    refine W_alen (n := 4) (v := 4) d_83_113 ((congrArg mlen ((HF_get (by omega)).trans (va_same _ _ _))).trans rfl) (by decide) ?_
    refine W_icmp_ge (tgt := 136) d_83_114 (by decide) (fun _ => ?_) (fun q => absurd (nI_le (a := 4) (b := s) (by omega) (by omega)) q)
    subst es
    refine W_iconst d_83_136 (v := 0) (by decide) ?_
    refine W_istore_n d_83_137 rfl ?_
    rw [ov_end k_58]
    exact kk
  | succ k ih =>
    intro s h4
    refine W_iload_n d_83_108 rfl ?_
    refine W_aload_n d_83_109 rfl (by decide) ?_
    refine W_getf d_83_110 o_83 k_6_37 ((HF_get (by omega)).trans ((va_oth _ _ (by decide)).trans (rfl : hk 0 = rooT))) rfl ?_
    refine W_alen (n := 4) (v := 4) d_83_113 ((congrArg mlen ((HF_get (by omega)).trans (va_same _ _ _))).trans rfl) (by decide) ?_
    refine W_icmp_ge (tgt := 136) d_83_114 (by decide) (fun q => absurd q (nI_ge (a := s) (b := 4) (by omega) (by omega))) (fun _ => ?_)
    refine W_aload_n d_83_117 rfl (by decide) ?_
    refine W_getf d_83_118 o_83 k_6_37 ((HF_get (by omega)).trans ((va_oth _ _ (by decide)).trans (rfl : hk 0 = rooT))) rfl ?_
    refine W_iload_n d_83_121 rfl ?_
    refine W_new d_83_122 o_83 k_6_65571 (show 84 + 2 * s < 1000 by omega) HF_pushN ?_
    show Wp _ _ _ _ (.ref (sb s) :: _) (HF g (sb s + 1) (va_up (va_up hk 58 (.inr (.inl (5, 4, shg s)))) (sb s) (.inr (.inr (5, Dft 5))))) _
    refine W_dup d_83_125 rfl ?_
    have hb : sb s = 84 + 2 * s := rfl
    refine W_callI d_83_126 o_83 (Or.inr k_6_49) (by omega) (i_77 (by omega)) rfl (show sb s < 1000 by omega) rfl (Nat.le_of_ble_eq_true rfl) ?_
    refine W_aast d_83_129 ((HF_get (by omega)).trans (va_same _ _ _)) ((HF_get (by omega)).trans ((va_oth _ _ (by omega)).trans (k_sheet (by omega)).1)) (vp_in_nI (by omega) (by decide)) ((HF_set (by omega)).trans (congrArg (HF g _) va_va)) ?_
    rw [nI_clamp (by omega)]
    refine W_iinc (v := 1) d_83_130 rfl (by decide) rfl ?_
    rw [show ((nI s + 1 : Int32)) = nI (s + 1) from nI_add s 1, show sb s + 2 = 84 + 2 * (s + 1) by omega]
    refine W_goto (tgt := 108) d_83_133 (by decide) ?_
    exact ih (s + 1) (by omega)
theorem i_83 (hd : 2 ≤ d) {Q : Option Value → mM → Prop} (kk : Wp d 83 138 [.ref 0, .int 0] [] (HF g 92 hk) Q) : Wp d 83 0 (ment 83 [.ref 0]) [] (HF g 1 (va_up hk 0 (.inr (.inr (6, Dft 6))))) Q := by
  show Wp _ 83 0 [.ref 0, .null] [] _ _
  refine W_aload_n d_83_0 rfl (by decide) ?_
  refine W_obj d_83_1 o_83 k_6_1 (by decide) (by decide) ?_
  refine W_aload_n d_83_4 rfl (by decide) ?_
  refine W_new d_83_5 o_83 k_6_65543 (show 1 < 1000 by decide) HF_pushN ?_
  show Wp _ _ _ _ (.ref (rb 0) :: _) (HF g (rb 0 + 1) (va_up (va_up hk 0 _) (rb 0) (.inr (.inr (4, Dft 4))))) _
  refine W_dup d_83_8 rfl ?_
  refine W_callI d_83_9 o_83 (Or.inl k_6_9) (by omega) (i_55 (by decide) (by omega)) rfl (show rb 0 < 1000 by decide) rfl (Nat.le_of_ble_eq_true rfl) ?_
  show Wp _ _ _ _ _ (HF g 19 (va_up hk 0 _)) _
  refine W_putf d_83_12 o_83 k_6_10 ((HF_get (by decide)).trans (va_same _ _ _)) (Nat.le_of_ble_eq_true rfl) (mput_ref (by decide) (by decide +kernel)) ((HF_set (by decide)).trans (congrArg (HF g _) va_va)) ?_
  refine W_aload_n d_83_15 rfl (by decide) ?_
  refine W_new d_83_16 o_83 k_6_65543 (show 19 < 1000 by decide) HF_pushN ?_
  show Wp _ _ _ _ (.ref (rb 1) :: _) (HF g (rb 1 + 1) (va_up (va_up hk 0 _) (rb 1) (.inr (.inr (4, Dft 4))))) _
  refine W_dup d_83_19 rfl ?_
  refine W_callI d_83_20 o_83 (Or.inl k_6_9) (by omega) (i_55 (by decide) (by omega)) rfl (show rb 1 < 1000 by decide) rfl (Nat.le_of_ble_eq_true rfl) ?_
  show Wp _ _ _ _ _ (HF g 37 (va_up hk 0 _)) _
  refine W_putf d_83_23 o_83 k_6_16 ((HF_get (by decide)).trans (va_same _ _ _)) (Nat.le_of_ble_eq_true rfl) (mput_ref (by decide) (by decide +kernel)) ((HF_set (by decide)).trans (congrArg (HF g _) va_va)) ?_
  refine W_aload_n d_83_26 rfl (by decide) ?_
  refine W_new d_83_27 o_83 k_6_65543 (show 37 < 1000 by decide) HF_pushN ?_
  show Wp _ _ _ _ (.ref (rb 2) :: _) (HF g (rb 2 + 1) (va_up (va_up hk 0 _) (rb 2) (.inr (.inr (4, Dft 4))))) _
  refine W_dup d_83_30 rfl ?_
  refine W_callI d_83_31 o_83 (Or.inl k_6_9) (by omega) (i_55 (by decide) (by omega)) rfl (show rb 2 < 1000 by decide) rfl (Nat.le_of_ble_eq_true rfl) ?_
  show Wp _ _ _ _ _ (HF g 55 (va_up hk 0 _)) _
  refine W_putf d_83_34 o_83 k_6_19 ((HF_get (by decide)).trans (va_same _ _ _)) (Nat.le_of_ble_eq_true rfl) (mput_ref (by decide) (by decide +kernel)) ((HF_set (by decide)).trans (congrArg (HF g _) va_va)) ?_
  refine W_aload_n d_83_37 rfl (by decide) ?_
  refine W_new d_83_38 o_83 k_6_65558 (show 55 < 1000 by decide) HF_pushN ?_
  show Wp _ _ _ _ (.ref 55 :: _) (HF g 56 (va_up (va_up hk 0 _) 55 (.inr (.inr (3, Dft 3))))) _
  refine W_dup d_83_41 rfl ?_
  refine W_callI d_83_42 o_83 (Or.inr k_6_24) (by omega) i_35 rfl (show 55 < 1000 by decide) rfl (Nat.le_of_ble_eq_true rfl) ?_
  refine W_putf d_83_45 o_83 k_6_25 ((HF_get (by decide)).trans (va_same _ _ _)) (Nat.le_of_ble_eq_true rfl) (mput_ref (by decide) (by decide +kernel)) ((HF_set (by decide)).trans (congrArg (HF g _) va_va)) ?_
  refine W_aload_n d_83_48 rfl (by decide) ?_
  refine W_bipush d_83_49 (v := 6) (by decide) ?_
  refine W_newA d_83_51 o_83 k_6_29 (by decide) (by decide) (show 57 < 1000 by decide) HF_pushN ?_
  show Wp _ _ _ _ (.ref 57 :: _) (HF g 58 (va_up (va_up hk 0 _) 57 (.inr (.inl (0, 6, txg 0))))) _
  refine W_putf d_83_54 o_83 k_6_31 ((HF_get (by decide)).trans ((va_oth _ _ (by decide)).trans (va_same _ _ _))) (Nat.le_of_ble_eq_true rfl) (mput_ref (by decide) (by decide +kernel)) ((HF_set (by decide)).trans (congrArg (HF g _) (ov2 (by decide)))) ?_
  refine W_aload_n d_83_57 rfl (by decide) ?_
  refine W_iconst d_83_58 (v := 4) (by decide) ?_
  refine W_newA d_83_59 o_83 k_6_35 (by decide) (by decide) (show 58 < 1000 by decide) HF_pushN ?_
  show Wp _ _ _ _ (.ref 58 :: _) (HF g 59 (va_up (va_up (va_up hk 0 _) 57 (.inr (.inl (0, 6, txg 0)))) 58 (.inr (.inl (5, 4, shg 0))))) _
  refine W_putf d_83_62 o_83 k_6_37 ((HF_get (by decide)).trans ((va_oth _ _ (by decide)).trans ((va_oth _ _ (by decide)).trans (va_same _ _ _)))) (Nat.le_of_ble_eq_true rfl) (mput_ref (by decide) (by decide +kernel)) ((HF_set (by decide)).trans (congrArg (HF g _) (ov3 (by decide) (by decide)))) ?_
  refine W_aload_n d_83_65 rfl (by decide) ?_
  refine W_new d_83_66 o_83 k_6_65577 (show 59 < 1000 by decide) (HF_push ((va_oth _ _ (by decide)).trans ((va_oth _ _ (by decide)).trans ((va_oth _ _ (by decide)).trans rfl)))) ?_
  show Wp _ _ _ _ (.ref 59 :: _) (HF g 60 _) _
  refine W_dup d_83_69 rfl ?_
  refine W_callI d_83_70 o_83 (Or.inr k_6_43) (by omega) (x_22 (show 59 < 1000 by decide)) rfl (show 59 < 1000 by decide) rfl (Nat.le_of_ble_eq_true rfl) ?_
  refine W_putf d_83_73 o_83 k_6_44 ((HF_get (by decide)).trans ((va_oth _ _ (by decide)).trans ((va_oth _ _ (by decide)).trans (va_same _ _ _)))) (Nat.le_of_ble_eq_true rfl) (mput_ref (by decide) (by decide +kernel)) ((HF_set (by decide)).trans (congrArg (HF g _) (ov3 (by decide) (by decide)))) ?_
  refine W_iconst d_83_76 (v := 0) (by decide) ?_
  refine W_istore_n d_83_77 rfl ?_
  show Wp _ 83 78 _ _ (HF g 60 (va_up (va_up (va_up hk 0 rooT) 57 (.inr (.inl (0, 6, txg 0)))) 58 (.inr (.inl (5, 4, shg 0))))) _
  rw [show va_up hk 0 rooT = hk from ov_end rfl]
  exact lp_83a (by omega) (lp_83b (by omega) kk 4 0 (by decide)) 6 0 (by decide)
end
