/-! ROAD: shovel, oneHour (wip/whole/gen19.py) -/
theorem nI_half {j : Nat} (h : j < 12) : nI j / 2 = nI (j / 2) := by
  have : ∀ j, j < 12 → nI j / 2 = nI (j / 2) := by decide +kernel
  exact this j h
def sh1 (A : Nat → tR) (r j : Nat) (Lr : tR) (z : Nat → Nat) : Nat → tR := u3 A r 7 j (A r 7 j + otk (A r 0 j) (A r 1 j) (sq (A r) Lr z 1 (nI j) (A r 1 j) (A r 3 j) (A r 2 j)))
def shA (A : Nat → tR) (r j : Nat) (Lr : tR) (z : Nat → Nat) : Nat → tR :=
  if otb (sh1 A r j Lr z r 0 j) (sh1 A r j Lr z r 1 j) (sh1 A r j Lr z r 3 j) = true then u3 (u3 (sh1 A r j Lr z) r 9 (j / 2) (i_min 999 (sh1 A r j Lr z r 9 (j / 2) + sh1 A r j Lr z r 2 j))) r 2 j 0
  else u3 (u3 (sh1 A r j Lr z) r 3 j (i_min 999 (sh1 A r j Lr z r 3 j + sh1 A r j Lr z r 2 j))) r 2 j 0
theorem shA_ap (A : Nat → tR) (r j : Nat) (Lr : tR) (z : Nat → Nat) (r' a b : Nat) (h : ¬ (a = 9 ∨ a = 2 ∨ a = 3 ∨ a = 7)) : shA A r j Lr z r' a b = A r' a b := by
  unfold shA
  split
  · rw [u3_ap, if_neg (by omega), u3_ap, if_neg (by omega), sh1, u3_ap, if_neg (by omega)]
  · rw [u3_ap, if_neg (by omega), u3_ap, if_neg (by omega), sh1, u3_ap, if_neg (by omega)]
theorem otb_t {b : Bool} (h : ¬ bI b = 0) : b = true := by cases b; exact absurd rfl h; rfl
theorem otb_f {b : Bool} (h : bI b = 0) : ¬ b = true := by cases b; decide; exact absurd h (by decide)
theorem x_67 {d : Nat} {g : mG} {N : Nat} {A T K : Nat → tR} {B : tR} {E : Nat → Int32} {l : Int64} {G : tR} {Qm : Nat → mC} {r : Nat} (hr : r < 3) {t : Nat} (ht : t < 6) {z : Nat → Nat} (hL : Lw (T t) z) {j : Nat} (hj : j < 12) (hd : 2 ≤ d) : ∃ G', Ex d 67 [.ref (rb r), .int (nI j), .ref (lb t)] (N, H3 g (cc A T K B E l G) Qm) none (N, H3 g (cc (shA A r j (T t) z) T K B E l G') Qm) := by
  refine ExG (f := fun G' => (N, H3 g (cc (shA A r j (T t) z) T K B E l G') Qm)) ?_
  show Wp _ 67 0 [.ref (rb r), .int (nI j), .ref (lb t), .null, .null] [] _ _
  refine W_aload_n d_67_0 rfl (rb_ne (by assumption)) ?_
  refine W_getf d_67_1 o_67 k_4_11 (h_road (by assumption)) rfl ?_
  refine W_iload_n d_67_4 rfl ?_
  refine W_aald d_67_5 (h_owners (by assumption)) (vp_in_nI (by omega) (by decide)) (owa_v (by omega)) ?_
  refine W_astore_n d_67_6 (ow_ne (by assumption) (by assumption)) rfl ?_
  refine W_aload_n d_67_7 rfl (rb_ne (by assumption)) ?_
  refine W_iload_n d_67_8 rfl ?_
  refine W_aload_n d_67_9 rfl (ow_ne (by assumption) (by assumption)) ?_
  refine W_getf d_67_10 o_67 k_4_119 (h_owner (by assumption) (by assumption)) rfl ?_
  refine W_aload_n d_67_13 rfl (ow_ne (by assumption) (by assumption)) ?_
  refine W_getf d_67_14 o_67 k_4_122 (h_owner (by assumption) (by assumption)) rfl ?_
  refine W_aload_n d_67_17 rfl (ow_ne (by assumption) (by assumption)) ?_
  refine W_getf d_67_18 o_67 k_4_95 (h_owner (by assumption) (by assumption)) rfl ?_
  refine W_callV d_67_21 o_67 (Or.inl k_4_105) (by omega) (x_69 hr) rfl (mrecv_of (h_road (by assumption)) o_69.symm) rfl (Nat.le_of_ble_eq_true rfl) ?_
  refine W_aload_n d_67_24 rfl (ow_ne (by assumption) (by assumption)) ?_
  refine W_dup d_67_25 rfl ?_
  refine W_getf d_67_26 o_67 k_4_69 (h_owner (by assumption) (by assumption)) rfl ?_
  refine W_aload_n d_67_29 rfl (ow_ne (by assumption) (by assumption)) ?_
  refine W_aload_n d_67_30 rfl (lb_ne (by assumption)) ?_
  refine W_iconst d_67_31 (v := 1) (by decide) ?_
  refine W_aload_n d_67_32 rfl (rb_ne (by assumption)) ?_
  refine W_getf d_67_33 o_67 k_4_33 (h_road (by assumption)) rfl ?_
  refine W_callVG d_67_36 o_67 (Or.inl k_4_109) (by omega) (x_19w hr ht hL (by omega) (p := 1) (by decide) (fcs_fx _ _ _ _ _ _ _ _)) rfl (mrecv_of (h_law (by assumption)) o_19.symm) rfl (Nat.le_of_ble_eq_true rfl) (fun G' => ?_)
  refine W_callV d_67_39 o_67 (Or.inl k_4_128) (by omega) (x_32 hr hj (by omega)) rfl (mrecv_of (h_owner (by assumption) (by assumption)) o_32.symm) rfl (Nat.le_of_ble_eq_true rfl) ?_
  refine W_iadd d_67_42 ?_
  refine W_putf d_67_43 o_67 k_4_69 (h_owner (by assumption) (by assumption)) (Nat.le_of_ble_eq_true rfl) rfl (ms_ow7 (by assumption) (by assumption)) ?_
  show Wp _ _ _ _ _ (N, H3 g (cc (sh1 A r j (T t) z) T K B E l G') Qm) _
  refine W_aload_n d_67_46 rfl (ow_ne (by assumption) (by assumption)) ?_
  refine W_callV d_67_47 o_67 (Or.inl k_4_131) (by omega) (x_33 hr hj) rfl (mrecv_of (h_owner (by assumption) (by assumption)) o_33.symm) rfl (Nat.le_of_ble_eq_true rfl) ?_
  refine W_if_eq (tgt := 86) d_67_50 (by decide) (fun h50 => ?_) (fun h50 => ?_)
  · refine W_aload_n d_67_86 rfl (ow_ne (by assumption) (by assumption)) ?_
    refine W_sipush d_67_87 (v := 999) (by decide) ?_
    refine W_aload_n d_67_90 rfl (ow_ne (by assumption) (by assumption)) ?_
    refine W_getf d_67_91 o_67 k_4_122 (h_owner (by assumption) (by assumption)) rfl ?_
    refine W_aload_n d_67_94 rfl (ow_ne (by assumption) (by assumption)) ?_
    refine W_getf d_67_95 o_67 k_4_95 (h_owner (by assumption) (by assumption)) rfl ?_
    refine W_iadd d_67_98 ?_
    refine W_callS d_67_99 o_67 k_4_81 (by omega) x_14 rfl (Nat.le_of_ble_eq_true rfl) ?_
    refine W_putf d_67_102 o_67 k_4_122 (h_owner (by assumption) (by assumption)) (Nat.le_of_ble_eq_true rfl) rfl (ms_ow3 (by assumption) (by assumption)) ?_
    refine W_aload_n d_67_105 rfl (ow_ne (by assumption) (by assumption)) ?_
    refine W_iconst d_67_106 (v := 0) (by decide) ?_
    refine W_putf d_67_107 o_67 k_4_95 (h_owner (by assumption) (by assumption)) (Nat.le_of_ble_eq_true rfl) rfl (ms_ow2 (by assumption) (by assumption)) ?_
    refine W_ret d_67_110 rt_67 ?_
    exact ⟨rfl, _, congrArg (fun A => (N, H3 g (cc A T K B E l G') Qm)) (if_neg (otb_f h50)).symm⟩
  · have hp6 : j / 2 < 6 := by omega
    refine W_iload_n d_67_53 rfl ?_
    refine W_iconst d_67_54 (v := 2) (by decide) ?_
    refine W_idiv d_67_55 (by decide) ?_
    rw [nI_half hj]
    refine W_istore d_67_56 rfl ?_
    refine W_aload_n d_67_58 rfl (rb_ne (by assumption)) ?_
    refine W_getf d_67_59 o_67 k_4_17 (h_road (by assumption)) rfl ?_
    refine W_iload d_67_62 rfl ?_
    refine W_sipush d_67_64 (v := 999) (by decide) ?_
    refine W_aload_n d_67_67 rfl (rb_ne (by assumption)) ?_
    refine W_getf d_67_68 o_67 k_4_17 (h_road (by assumption)) rfl ?_
    refine W_iload d_67_71 rfl ?_
    refine W_iald d_67_73 (h_lies (by assumption)) (by decide) (vp_in_nI (by omega) (by decide)) (congrArg _ (nI_clamp (by omega))) ?_
    refine W_aload_n d_67_74 rfl (ow_ne (by assumption) (by assumption)) ?_
    refine W_getf d_67_75 o_67 k_4_95 (h_owner (by assumption) (by assumption)) rfl ?_
    refine W_iadd d_67_78 ?_
    refine W_callS d_67_79 o_67 k_4_81 (by omega) x_14 rfl (Nat.le_of_ble_eq_true rfl) ?_
    refine W_iast d_67_82 (h_lies (by assumption)) (vp_in_nI (by omega) (by decide)) (ms_liesU (by assumption) (nI_clamp (by omega))) ?_
    refine W_goto (tgt := 105) d_67_83 (by decide) ?_
    refine W_aload_n d_67_105 rfl (ow_ne (by assumption) (by assumption)) ?_
    refine W_iconst d_67_106 (v := 0) (by decide) ?_
    refine W_putf d_67_107 o_67 k_4_95 (h_owner (by assumption) (by assumption)) (Nat.le_of_ble_eq_true rfl) rfl (ms_ow2 (by assumption) (by assumption)) ?_
    refine W_ret d_67_110 rt_67 ?_
    exact ⟨rfl, _, congrArg (fun A => (N, H3 g (cc A T K B E l G') Qm)) (if_pos (otb_t h50)).symm⟩
def psA (A : Nat → tR) (r : Nat) (Lr : tR) (z : Nat → Nat) : Nat → Nat → tR
  | 0 => A
  | i + 1 => if psA A r Lr z i r 10 i = i_mod (psA A r Lr z i r 12 2) 24 then plA (psA A r Lr z i) r Lr z (psA A r Lr z i r 11 i) else psA A r Lr z i
theorem psA_ap (A : Nat → tR) (r : Nat) (Lr : tR) (z : Nat → Nat) (r' a b : Nat) (h : ¬ (a = 9 ∨ a = 2 ∨ (a = 12 ∧ b = 5))) (i : Nat) : psA A r Lr z i r' a b = A r' a b := by
  induction i with
  | zero => rfl
  | succ i ih =>
    simp only [psA]
    split
    · rw [plA_ap _ _ _ _ _ _ _ _ h, ih]
    · exact ih
def osA (A : Nat → tR) (r : Nat) (Lr : tR) (z : Nat → Nat) : Nat → Nat → tR
  | 0 => A
  | i + 1 => if osA A r Lr z i r 2 i = 0 then osA A r Lr z i else if ocm (osA A r Lr z i r 0 i) (osA A r Lr z i r 1 i) (osA A r Lr z i r 5 i) (osA A r Lr z i r 12 2) = true then shA (osA A r Lr z i) r i Lr z else osA A r Lr z i
theorem osA_ap (A : Nat → tR) (r : Nat) (Lr : tR) (z : Nat → Nat) (r' a b : Nat) (h : ¬ (a = 9 ∨ a = 2 ∨ a = 3 ∨ a = 7)) (i : Nat) : osA A r Lr z i r' a b = A r' a b := by
  induction i with
  | zero => rfl
  | succ i ih =>
    simp only [osA]
    split
    · exact ih
    · split
      · rw [shA_ap _ _ _ _ _ _ _ _ h, ih]
      · exact ih
def blA (A : Nat → tR) (r : Nat) : Nat → Nat → tR
  | 0 => A
  | i + 1 => if blA A r i r 2 i ≤ blA A r i r 12 3 then blA A r i else u3 (blA A r i) r 8 i (blA A r i r 8 i + 1)
theorem blA_ap (A : Nat → tR) (r : Nat) (r' a b : Nat) (h : ¬ a = 8) (i : Nat) : blA A r i r' a b = A r' a b := by
  induction i with
  | zero => rfl
  | succ i ih =>
    simp only [blA]
    split
    · exact ih
    · rw [u3_ap, if_neg (by omega), ih]
/-- what an hour makes of a road with n owners and m passes -/
def hrA (A : Nat → tR) (r : Nat) (Lr : tR) (z : Nat → Nat) (n m : Nat) : Nat → tR :=
  let A1 := blA (osA (psA (snA A r Lr z) r Lr z m) r Lr z n) r n
  u3 A1 r 12 2 (A1 r 12 2 + 1)
theorem snA_ap (A : Nat → tR) (r : Nat) (Lr : tR) (z : Nat → Nat) (r' a b : Nat) (h : ¬ a = 9) : snA A r Lr z r' a b = A r' a b := sfA_12 _ _ _ _ _ _ _ h
theorem lp_64a {d : Nat} {g : mG} {N : Nat} {A T K : Nat → tR} {B : tR} {E : Nat → Int32} {l : Int64} {G : tR} {Qm : Nat → mC} {r : Nat} (hr : r < 3) {t : Nat} (ht : t < 6) {z : Nat → Nat} (hL : Lw (T t) z) {n0 : Nat} (hn0 : A r 12 0 = nI n0) (hn12 : n0 ≤ 12) {n : Nat} (hn : A r 12 1 = nI n) (hn6 : n ≤ 6) (hd : 3 ≤ d) {Q : Option Value → mM → Prop} (kk : ∀ G', Wp d 64 48 [.ref (rb r), .ref (lb t), .int (nI n)] [] (N, H3 g (cc (psA A r (T t) z n) T K B E l G') Qm) Q) : ∀ (k i : Nat) (G : tR), i + k = n → Wp d 64 7 [.ref (rb r), .ref (lb t), .int (nI i)] [] (N, H3 g (cc (psA A r (T t) z i) T K B E l G) Qm) Q := by
  intro k
  induction k with
  | zero =>
    intro i G hi
    obtain rfl : i = n := by omega
    refine W_iload_n d_64_7 rfl ?_
    refine W_aload_n d_64_8 rfl (rb_ne (by assumption)) ?_
    refine W_getf d_64_9 o_64 k_4_40 (h_road (by assumption)) rfl ?_
    rw [psA_ap _ _ _ _ _ _ _ (by omega), hn]
    refine W_icmp_ge (tgt := 48) d_64_12 (by decide) (fun h12 => ?_) (fun h12 => absurd (nI_le (a := i) (b := i) (by omega) (by omega)) h12)
    exact kk _
  | succ k ih =>
    intro i G hi
    have hj : i < 6 := by omega
    refine W_iload_n d_64_7 rfl ?_
    refine W_aload_n d_64_8 rfl (rb_ne (by assumption)) ?_
    refine W_getf d_64_9 o_64 k_4_40 (h_road (by assumption)) rfl ?_
    rw [psA_ap _ _ _ _ _ _ _ (by omega), hn]
    refine W_icmp_ge (tgt := 48) d_64_12 (by decide) (fun h12 => absurd h12 (nI_ge (a := i) (b := n) (by omega) (by omega))) (fun h12 => ?_)
    refine W_aload_n d_64_15 rfl (rb_ne (by assumption)) ?_
    refine W_getf d_64_16 o_64 k_4_21 (h_road (by assumption)) rfl ?_
    refine W_iload_n d_64_19 rfl ?_
    refine W_iald d_64_20 (h_pho (by assumption)) (by decide) (vp_in_nI (by omega) (by decide)) (congrArg _ (nI_clamp (by omega))) ?_
    refine W_aload_n d_64_21 rfl (rb_ne (by assumption)) ?_
    refine W_getf d_64_22 o_64 k_4_57 (h_road (by assumption)) rfl ?_
    refine W_bipush d_64_25 (v := 24) (by decide) ?_
    refine W_irem d_64_27 (by decide) ?_
    refine W_icmp_ne (tgt := 42) d_64_28 (by decide) (fun h28 => ?_) (fun h28 => ?_)
    · refine W_iinc (v := 1) d_64_42 rfl (by decide) rfl ?_
      refine W_goto (tgt := 7) d_64_45 (by decide) ?_
      have h9 := fun G => ih (i + 1) G (by omega)
      rw [show psA A r (T t) z (i + 1) = psA A r (T t) z i from if_neg h28, nI_succ] at h9
      exact h9 _
    · refine W_aload_n d_64_31 rfl (rb_ne (by assumption)) ?_
      refine W_aload_n d_64_32 rfl (rb_ne (by assumption)) ?_
      refine W_getf d_64_33 o_64 k_4_24 (h_road (by assumption)) rfl ?_
      refine W_iload_n d_64_36 rfl ?_
      refine W_iald d_64_37 (h_psi (by assumption)) (by decide) (vp_in_nI (by omega) (by decide)) (congrArg _ (nI_clamp (by omega))) ?_
      refine W_aload_n d_64_38 rfl (lb_ne (by assumption)) ?_
      refine W_callVG d_64_39 o_64 (Or.inl k_4_91) (by omega) (x_66 hr ht hL (n := n0) (by rw [psA_ap _ _ _ _ _ _ _ (by omega), hn0]) hn12 (by omega)) rfl (mrecv_of (h_road (by assumption)) o_66.symm) rfl (Nat.le_of_ble_eq_true rfl) (fun G' => ?_)
      refine W_iinc (v := 1) d_64_42 rfl (by decide) rfl ?_
      refine W_goto (tgt := 7) d_64_45 (by decide) ?_
      have h9 := fun G => ih (i + 1) G (by omega)
      rw [show psA A r (T t) z (i + 1) = plA (psA A r (T t) z i) r (T t) z (psA A r (T t) z i r 11 i) from if_pos h28, nI_succ] at h9
      exact h9 _
theorem lp_64b {d : Nat} {g : mG} {N : Nat} {A T K : Nat → tR} {B : tR} {E : Nat → Int32} {l : Int64} {G : tR} {Qm : Nat → mC} {r : Nat} (hr : r < 3) {t : Nat} (ht : t < 6) {z : Nat → Nat} (hL : Lw (T t) z) {n : Nat} (hn : A r 12 0 = nI n) (hn12 : n ≤ 12) (hd : 3 ≤ d) {Q : Option Value → mM → Prop} (kk : ∀ G', Wp d 64 98 [.ref (rb r), .ref (lb t), .int (nI n)] [] (N, H3 g (cc (osA A r (T t) z n) T K B E l G') Qm) Q) : ∀ (k i : Nat) (G : tR), i + k = n → Wp d 64 50 [.ref (rb r), .ref (lb t), .int (nI i)] [] (N, H3 g (cc (osA A r (T t) z i) T K B E l G) Qm) Q := by
  intro k
  induction k with
  | zero =>
    intro i G hi
    obtain rfl : i = n := by omega
    refine W_iload_n d_64_50 rfl ?_
    refine W_aload_n d_64_51 rfl (rb_ne (by assumption)) ?_
    refine W_getf d_64_52 o_64 k_4_37 (h_road (by assumption)) rfl ?_
    rw [osA_ap _ _ _ _ _ _ _ (by omega), hn]
    refine W_icmp_ge (tgt := 98) d_64_55 (by decide) (fun h55 => ?_) (fun h55 => absurd (nI_le (a := i) (b := i) (by omega) (by omega)) h55)
    exact kk _
  | succ k ih =>
    intro i G hi
    have hj : i < 12 := by omega
    refine W_iload_n d_64_50 rfl ?_
    refine W_aload_n d_64_51 rfl (rb_ne (by assumption)) ?_
    refine W_getf d_64_52 o_64 k_4_37 (h_road (by assumption)) rfl ?_
    rw [osA_ap _ _ _ _ _ _ _ (by omega), hn]
    refine W_icmp_ge (tgt := 98) d_64_55 (by decide) (fun h55 => absurd h55 (nI_ge (a := i) (b := n) (by omega) (by omega))) (fun h55 => ?_)
    refine W_aload_n d_64_58 rfl (rb_ne (by assumption)) ?_
    refine W_getf d_64_59 o_64 k_4_11 (h_road (by assumption)) rfl ?_
    refine W_iload_n d_64_62 rfl ?_
    refine W_aald d_64_63 (h_owners (by assumption)) (vp_in_nI (by omega) (by decide)) (owa_v (by omega)) ?_
    refine W_getf d_64_64 o_64 k_4_95 (h_owner (by assumption) (by assumption)) rfl ?_
    refine W_if_eq (tgt := 92) d_64_67 (by decide) (fun h67 => ?_) (fun h67 => ?_)
    · refine W_iinc (v := 1) d_64_92 rfl (by decide) rfl ?_
      refine W_goto (tgt := 50) d_64_95 (by decide) ?_
      have h9 := fun G => ih (i + 1) G (by omega)
      rw [show osA A r (T t) z (i + 1) = osA A r (T t) z i from if_pos h67, nI_succ] at h9
      exact h9 _
    · refine W_aload_n d_64_70 rfl (rb_ne (by assumption)) ?_
      refine W_getf d_64_71 o_64 k_4_11 (h_road (by assumption)) rfl ?_
      refine W_iload_n d_64_74 rfl ?_
      refine W_aald d_64_75 (h_owners (by assumption)) (vp_in_nI (by omega) (by decide)) (owa_v (by omega)) ?_
      refine W_aload_n d_64_76 rfl (rb_ne (by assumption)) ?_
      refine W_getf d_64_77 o_64 k_4_57 (h_road (by assumption)) rfl ?_
      refine W_callV d_64_80 o_64 (Or.inl k_4_98) (by omega) (x_34 hr hj) rfl (mrecv_of (h_owner (by assumption) (by assumption)) o_34.symm) rfl (Nat.le_of_ble_eq_true rfl) ?_
      refine W_if_eq (tgt := 92) d_64_83 (by decide) (fun h83 => ?_) (fun h83 => ?_)
      · refine W_iinc (v := 1) d_64_92 rfl (by decide) rfl ?_
        refine W_goto (tgt := 50) d_64_95 (by decide) ?_
        have h9 := fun G => ih (i + 1) G (by omega)
        rw [show osA A r (T t) z (i + 1) = osA A r (T t) z i from (if_neg h67).trans (if_neg (otb_f h83)), nI_succ] at h9
        exact h9 _
      · refine W_aload_n d_64_86 rfl (rb_ne (by assumption)) ?_
        refine W_iload_n d_64_87 rfl ?_
        refine W_aload_n d_64_88 rfl (lb_ne (by assumption)) ?_
        refine W_callVG d_64_89 o_64 (Or.inl k_4_102) (by omega) (x_67 hr ht hL hj (by omega)) rfl (mrecv_of (h_road (by assumption)) o_67.symm) rfl (Nat.le_of_ble_eq_true rfl) (fun G' => ?_)
        refine W_iinc (v := 1) d_64_92 rfl (by decide) rfl ?_
        refine W_goto (tgt := 50) d_64_95 (by decide) ?_
        have h9 := fun G => ih (i + 1) G (by omega)
        rw [show osA A r (T t) z (i + 1) = shA (osA A r (T t) z i) r i (T t) z from (if_neg h67).trans (if_pos (otb_t h83)), nI_succ] at h9
        exact h9 _
theorem lp_64c {d : Nat} {g : mG} {N : Nat} {A T K : Nat → tR} {B : tR} {E : Nat → Int32} {l : Int64} {G : tR} {Qm : Nat → mC} {r : Nat} (hr : r < 3) {t : Nat} {n : Nat} (hn : A r 12 0 = nI n) (hn12 : n ≤ 12) {Q : Option Value → mM → Prop} (kk : ∀ G', Wp d 64 145 [.ref (rb r), .ref (lb t), .int (nI n)] [] (N, H3 g (cc (blA A r n) T K B E l G') Qm) Q) : ∀ (k i : Nat) (G : tR), i + k = n → Wp d 64 100 [.ref (rb r), .ref (lb t), .int (nI i)] [] (N, H3 g (cc (blA A r i) T K B E l G) Qm) Q := by
  intro k
  induction k with
  | zero =>
    intro i G hi
    obtain rfl : i = n := by omega
    refine W_iload_n d_64_100 rfl ?_
    refine W_aload_n d_64_101 rfl (rb_ne (by assumption)) ?_
    refine W_getf d_64_102 o_64 k_4_37 (h_road (by assumption)) rfl ?_
    rw [blA_ap _ _ _ _ _ (by omega), hn]
    refine W_icmp_ge (tgt := 145) d_64_105 (by decide) (fun h105 => ?_) (fun h105 => absurd (nI_le (a := i) (b := i) (by omega) (by omega)) h105)
    exact kk _
  | succ k ih =>
    intro i G hi
    have hj : i < 12 := by omega
    refine W_iload_n d_64_100 rfl ?_
    refine W_aload_n d_64_101 rfl (rb_ne (by assumption)) ?_
    refine W_getf d_64_102 o_64 k_4_37 (h_road (by assumption)) rfl ?_
    rw [blA_ap _ _ _ _ _ (by omega), hn]
    refine W_icmp_ge (tgt := 145) d_64_105 (by decide) (fun h105 => absurd h105 (nI_ge (a := i) (b := n) (by omega) (by omega))) (fun h105 => ?_)
    refine W_aload_n d_64_108 rfl (rb_ne (by assumption)) ?_
    refine W_getf d_64_109 o_64 k_4_11 (h_road (by assumption)) rfl ?_
    refine W_iload_n d_64_112 rfl ?_
    refine W_aald d_64_113 (h_owners (by assumption)) (vp_in_nI (by omega) (by decide)) (owa_v (by omega)) ?_
    refine W_getf d_64_114 o_64 k_4_95 (h_owner (by assumption) (by assumption)) rfl ?_
    refine W_aload_n d_64_117 rfl (rb_ne (by assumption)) ?_
    refine W_getf d_64_118 o_64 k_4_27 (h_road (by assumption)) rfl ?_
    refine W_icmp_le (tgt := 139) d_64_121 (by decide) (fun h121 => ?_) (fun h121 => ?_)
    · refine W_iinc (v := 1) d_64_139 rfl (by decide) rfl ?_
      refine W_goto (tgt := 100) d_64_142 (by decide) ?_
      have h9 := fun G => ih (i + 1) G (by omega)
      rw [show blA A r (i + 1) = blA A r i from if_pos h121, nI_succ] at h9
      exact h9 _
    · refine W_aload_n d_64_124 rfl (rb_ne (by assumption)) ?_
      refine W_getf d_64_125 o_64 k_4_11 (h_road (by assumption)) rfl ?_
      refine W_iload_n d_64_128 rfl ?_
      refine W_aald d_64_129 (h_owners (by assumption)) (vp_in_nI (by omega) (by decide)) (owa_v (by omega)) ?_
      refine W_dup d_64_130 rfl ?_
      refine W_getf d_64_131 o_64 k_4_72 (h_owner (by assumption) (by assumption)) rfl ?_
      refine W_iconst d_64_134 (v := 1) (by decide) ?_
      refine W_iadd d_64_135 ?_
      refine W_putf d_64_136 o_64 k_4_72 (h_owner (by assumption) (by assumption)) (Nat.le_of_ble_eq_true rfl) rfl (ms_ow8 (by assumption) (by assumption)) ?_
      refine W_iinc (v := 1) d_64_139 rfl (by decide) rfl ?_
      refine W_goto (tgt := 100) d_64_142 (by decide) ?_
      have h9 := fun G => ih (i + 1) G (by omega)
      rw [show blA A r (i + 1) = u3 (blA A r i) r 8 i (blA A r i r 8 i + 1) from if_neg h121, nI_succ] at h9
      exact h9 _
theorem x_64 {d : Nat} {g : mG} {N : Nat} {A T K : Nat → tR} {B : tR} {E : Nat → Int32} {l : Int64} {G : tR} {Qm : Nat → mC} {r : Nat} (hr : r < 3) {t : Nat} (ht : t < 6) {z : Nat → Nat} (hL : Lw (T t) z) {n : Nat} (hn : A r 12 0 = nI n) (hn12 : n ≤ 12) {m : Nat} (hm : A r 12 1 = nI m) (hm6 : m ≤ 6) (hd : 3 ≤ d) : ∃ G', Ex d 64 [.ref (rb r), .ref (lb t)] (N, H3 g (cc A T K B E l G) Qm) none (N, H3 g (cc (hrA A r (T t) z n m) T K B E l G') Qm) := by
  refine ExG (f := fun G' => (N, H3 g (cc (hrA A r (T t) z n m) T K B E l G') Qm)) ?_
  show Wp _ 64 0 [.ref (rb r), .ref (lb t), .null] [] _ _
  refine W_aload_n d_64_0 rfl (rb_ne (by assumption)) ?_
  refine W_aload_n d_64_1 rfl (lb_ne (by assumption)) ?_
  refine W_callVG d_64_2 o_64 (Or.inl k_4_87) (by omega) (x_65 hr ht hL (by omega)) rfl (mrecv_of (h_road (by assumption)) o_65.symm) rfl (Nat.le_of_ble_eq_true rfl) (fun G1 => ?_)
  refine W_iconst d_64_5 (v := 0) (by decide) ?_
  refine W_istore_n d_64_6 rfl ?_
  refine lp_64a (G := G) (A := snA A r (T t) z) hr ht hL (n0 := n) ((snA_ap _ _ _ _ _ _ _ (by omega)).trans hn) hn12 (n := m) ((snA_ap _ _ _ _ _ _ _ (by omega)).trans hm) hm6 hd (fun G2 => ?_) m 0 _ (by omega)
  refine W_iconst d_64_48 (v := 0) (by decide) ?_
  refine W_istore_n d_64_49 rfl ?_
  refine lp_64b (G := G) (A := psA (snA A r (T t) z) r (T t) z m) hr ht hL (n := n) ((psA_ap _ _ _ _ _ _ _ (by omega) _).trans ((snA_ap _ _ _ _ _ _ _ (by omega)).trans hn)) hn12 hd (fun G3 => ?_) n 0 _ (by omega)
  refine W_iconst d_64_98 (v := 0) (by decide) ?_
  refine W_istore_n d_64_99 rfl ?_
  refine lp_64c (G := G) (A := osA (psA (snA A r (T t) z) r (T t) z m) r (T t) z n) hr (n := n) ((osA_ap _ _ _ _ _ _ _ (by omega) _).trans ((psA_ap _ _ _ _ _ _ _ (by omega) _).trans ((snA_ap _ _ _ _ _ _ _ (by omega)).trans hn))) hn12 (fun G4 => ?_) n 0 _ (by omega)
  refine W_aload_n d_64_145 rfl (rb_ne (by assumption)) ?_
  refine W_dup d_64_146 rfl ?_
  refine W_getf d_64_147 o_64 k_4_57 (h_road (by assumption)) rfl ?_
  refine W_iconst d_64_150 (v := 1) (by decide) ?_
  refine W_iadd d_64_151 ?_
  refine W_putf d_64_152 o_64 k_4_57 (h_road (by assumption)) (Nat.le_of_ble_eq_true rfl) rfl (ms_rd6 (by assumption)) ?_
  refine W_ret d_64_155 rt_64 ?_
  exact ⟨rfl, _, rfl⟩
