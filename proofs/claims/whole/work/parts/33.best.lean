/-! WHAT IS BEST: when, dig, blade (wip/whole/gen33.py) -/
theorem lp_99 {d : Nat} {g : mG} {N : Nat} {A0 T K : Nat → tR} {B : tR} {E : Nat → Int32} {Qm : Nat → mC} {r0 r1 : Nat} (e0 : r0 = 0) (e1 : r1 = 1) {z : Nat → Nat} {n p t : Nat} (hX : CX (A0 r0) T z n p t) {m : Nat} (hm : m ≤ 48) {j : Nat} (hj : j < n) {gw : Int32} (hd : 9 ≤ d) {Q : Option Value → mM → Prop} (kk : ∀ (A : Nat → tR) (l : Int64) (G : tR) (a : Value) (b : Value), (∀ r, ¬ r = r1 → A r = A0 r) → Wp d 99 110 [.ref 0, .int (nI j), .int (nI m), .int gw, .int (bst (-1, 2147483647) (whF (A0 r0) (T t) z n p m j gw) 24).1, .int (bst (-1, 2147483647) (whF (A0 r0) (T t) z n p m j gw) 24).2, .int (nI 24), a, b] [] (N, H3 g (cc A T K B E l G) Qm) Q) : ∀ (k i : Nat) (A : Nat → tR) (l : Int64) (G : tR) (a : Value) (b : Value), i + k = 24 → (∀ r, ¬ r = r1 → A r = A0 r) → Wp d 99 41 [.ref 0, .int (nI j), .int (nI m), .int gw, .int (bst (-1, 2147483647) (whF (A0 r0) (T t) z n p m j gw) i).1, .int (bst (-1, 2147483647) (whF (A0 r0) (T t) z n p m j gw) i).2, .int (nI i), a, b] [] (N, H3 g (cc A T K B E l G) Qm) Q := by
  intro k
  induction k with
  | zero =>
    intro i A l G a b hi hA
    have ei : i = 24 := by omega
    refine W_iload d_99_41 rfl ?_
    refine W_bipush d_99_43 (v := 24) (by decide) ?_
    refine W_icmp_ge (tgt := 110) d_99_45 (by decide) (fun h45 => ?_) (fun h45 => absurd (nI_le (a := 24) (b := i) (by omega) (by omega)) h45)
    rw [ei]
    exact kk _ _ _ _ _ hA
  | succ k ih =>
    intro i A l G a b hi hA
    obtain ⟨hn, hn12, hp, hp6, hlw, ht, hL⟩ := hX
    have hr0 := hA r0 (by omega)
    have hn' : A r0 12 0 = nI n := by rw [hr0]; exact hn
    have hp' : A r0 12 1 = nI p := by rw [hr0]; exact hp
    have hlw' : A r0 12 4 = nI t := by rw [hr0]; exact hlw
    have hj12 : j < 12 := by omega
    refine W_iload d_99_41 rfl ?_
    refine W_bipush d_99_43 (v := 24) (by decide) ?_
    refine W_icmp_ge (tgt := 110) d_99_45 (by decide) (fun h45 => absurd h45 (nI_ge (a := i) (b := 24) (by omega) (by omega))) (fun h45 => ?_)
    refine W_aload_n d_99_48 rfl (by decide) ?_
    refine W_iload_n d_99_49 rfl ?_
    refine W_iconst d_99_50 (v := 3) (by decide) ?_
    refine W_iload d_99_51 rfl ?_
    refine W_iload_n d_99_53 rfl ?_
    refine W_callVG d_99_54 o_99 (Or.inl k_6_198) (by omega) (x_124 e0 e1 ht hL hn' hn12 hp' hp6 hlw' (m := m) (by omega) (j := j) (by omega) (by omega)) rfl (mrecv_of rfl o_124.symm) rfl (Nat.le_of_ble_eq_true rfl) (fun G' => ?_)
    have hq := tho_eq (Lr := T t) (z := z) (A := A) (r0 := r0) (r1 := r1) (p := p) (by omega) hn12 hp6 hn' m (j := j) (w := 3) (v := nI i)
    rw [hr0] at hq
    have hne : ∀ r, ¬ r = r1 → hrs (ochg (bkA A r1 r0 n) r1 j (3) (nI i)) r1 (T t) z n p m r = A0 r := fun r hr => (tho_ne hr).trans (hA r hr)
    have hn1 : hrs (ochg (bkA A r1 r0 n) r1 j (3) (nI i)) r1 (T t) z n p m r1 12 0 = nI n := (hrs_ap _ _ _ _ _ _ _ _ (by decide) _).trans ((ochg_12 _ _ _ _ _ _ _).trans ((bkA_12 _ _ _ _ 0 (by decide)).trans hn'))
    generalize hrs (ochg (bkA A r1 r0 n) r1 j (3) (nI i)) r1 (T t) z n p m = A2 at hq hne hn1 ⊢
    refine W_aload_n d_99_57 rfl (by decide) ?_
    refine W_getf d_99_58 o_99 k_6_16 rfl rfl ?_
    show Wp _ _ _ _ (Value.ref (rb 1) :: _) _ _
    rw [show rb 1 = rb r1 from by rw [e1]]
    have hq1 : r1 < 3 := by omega
    refine W_getf d_99_61 o_99 k_6_121 (h_road (by assumption)) rfl ?_
    refine W_iload_n d_99_64 rfl ?_
    refine W_aald d_99_65 (h_owners (by assumption)) (vp_in_nI (by omega) (by decide)) (owa_v (by omega)) ?_
    refine W_astore d_99_66 (ow_ne (by assumption) (by assumption)) rfl ?_
    refine W_iload_n d_99_68 rfl ?_
    refine W_bipush d_99_69 (v := 10) (by decide) ?_
    refine W_icmp_ge (tgt := 82) d_99_71 (by decide) (fun h71 => ?_) (fun h71 => ?_)
    · refine W_aload d_99_82 rfl (ow_ne (by assumption) (by assumption)) ?_
      refine W_getf d_99_84 o_99 k_6_188 (h_owner (by assumption) (by assumption)) rfl ?_
      refine W_istore d_99_87 rfl ?_
      refine W_iload d_99_89 rfl ?_
      refine W_iload d_99_91 rfl ?_
      refine W_icmp_ge (tgt := 104) d_99_93 (by decide) (fun h93 => ?_) (fun h93 => ?_)
      · refine W_iinc (v := 1) d_99_104 rfl (by decide) rfl ?_
        rw [show ((nI i + 1 : Int32)) = nI (i + 1) from nI_add i 1]
        refine W_goto (tgt := 41) d_99_107 (by decide) ?_
        have h71b : ¬ gw < 10 := Int32.not_lt.mpr h71
        have h9 := fun a b => ih (i + 1) A2 l G' a b (by omega) hne
        rw [bst_f (v := A2 r1 8 j) ((hq.lo (a := 8) (b := j) (by decide) hj).trans (if_neg h71b).symm) (Int32.not_lt.mpr h93)] at h9
        exact h9 _ _
      · refine W_iload d_99_96 rfl ?_
        refine W_istore d_99_98 rfl ?_
        refine W_iload d_99_100 rfl ?_
        refine W_istore d_99_102 rfl ?_
        refine W_iinc (v := 1) d_99_104 rfl (by decide) rfl ?_
        rw [show ((nI i + 1 : Int32)) = nI (i + 1) from nI_add i 1]
        refine W_goto (tgt := 41) d_99_107 (by decide) ?_
        have h71b : ¬ gw < 10 := Int32.not_lt.mpr h71
        have h9 := fun a b => ih (i + 1) A2 l G' a b (by omega) hne
        rw [bst_t (v := A2 r1 8 j) ((hq.lo (a := 8) (b := j) (by decide) hj).trans (if_neg h71b).symm) (Int32.not_le.mp h93)] at h9
        exact h9 _ _
    · refine W_aload d_99_74 rfl (ow_ne (by assumption) (by assumption)) ?_
      refine W_getf d_99_76 o_99 k_6_185 (h_owner (by assumption) (by assumption)) rfl ?_
      refine W_goto (tgt := 87) d_99_79 (by decide) ?_
      refine W_istore d_99_87 rfl ?_
      refine W_iload d_99_89 rfl ?_
      refine W_iload d_99_91 rfl ?_
      refine W_icmp_ge (tgt := 104) d_99_93 (by decide) (fun h93 => ?_) (fun h93 => ?_)
      · refine W_iinc (v := 1) d_99_104 rfl (by decide) rfl ?_
        rw [show ((nI i + 1 : Int32)) = nI (i + 1) from nI_add i 1]
        refine W_goto (tgt := 41) d_99_107 (by decide) ?_
        have h71b : gw < 10 := Int32.not_le.mp h71
        have h9 := fun a b => ih (i + 1) A2 l G' a b (by omega) hne
        rw [bst_f (v := A2 r1 7 j) ((hq.lo (a := 7) (b := j) (by decide) hj).trans (if_pos h71b).symm) (Int32.not_lt.mpr h93)] at h9
        exact h9 _ _
      · refine W_iload d_99_96 rfl ?_
        refine W_istore d_99_98 rfl ?_
        refine W_iload d_99_100 rfl ?_
        refine W_istore d_99_102 rfl ?_
        refine W_iinc (v := 1) d_99_104 rfl (by decide) rfl ?_
        rw [show ((nI i + 1 : Int32)) = nI (i + 1) from nI_add i 1]
        refine W_goto (tgt := 41) d_99_107 (by decide) ?_
        have h71b : gw < 10 := Int32.not_le.mp h71
        have h9 := fun a b => ih (i + 1) A2 l G' a b (by omega) hne
        rw [bst_t (v := A2 r1 7 j) ((hq.lo (a := 7) (b := j) (by decide) hj).trans (if_pos h71b).symm) (Int32.not_le.mp h93)] at h9
        exact h9 _ _
theorem p_99 {d : Nat} {g : mG} {N : Nat} {A T K : Nat → tR} {B : tR} {E : Nat → Int32} {l : Int64} {G : tR} {Qm : Nat → mC} {r0 r1 : Nat} (e0 : r0 = 0) (e1 : r1 = 1) {z : Nat → Nat} {n p t : Nat} (hX : CX (A r0) T z n p t) {m : Nat} (hm : m ≤ 48) {j : Nat} (hj : j < n) {gw : Int32} (hg : ((0 ≤ gw ∧ gw ≤ 11) ∧ i_mod gw 10 ≤ 1)) (hd : 9 ≤ d) : Wp d 99 0 (ment 99 [.ref 0, .int (nI j), .int (nI m), .int gw]) [] (N, H3 g (cc A T K B E l G) Qm) (fun v M' => v = some (.int (pk (i_mod gw 10) (bst (-1, 2147483647) (whF (A r0) (T t) z n p m j gw) 24))) ∧ ∃ A' l' G', M' = (N, H3 g (cc A' T K B E l' G') Qm) ∧ ∀ r, ¬ r = r1 → A' r = A r) := by
  have hn := hX.1
  have hn12 := hX.2.1
  show Wp _ 99 0 [.ref 0, .int (nI j), .int (nI m), .int gw, .null, .null, .null, .null, .null] [] _ _
  refine W_aload_n d_99_0 rfl (by decide) ?_
  refine W_getf d_99_1 o_99 k_6_10 rfl rfl ?_
  show Wp _ _ _ _ (Value.ref (rb 0) :: _) _ _
  rw [show rb 0 = rb r0 from by rw [e0]]
  have hq0 : r0 < 3 := by omega
  refine W_iload_n d_99_4 rfl ?_
  refine W_callV d_99_5 o_99 (Or.inl k_6_103) (by omega) (x_56 (show r0 < 3 by omega)) rfl (mrecv_of (h_road (by assumption)) o_56.symm) rfl (Nat.le_of_ble_eq_true rfl) ?_
  refine W_if_ne (tgt := 14) d_99_8 (by decide) (fun h8 => ?_) (fun h8 => absurd h8 (fun q => bI_f q ⟨nI_pos' (by omega), by rw [hn]; exact nI_lt hj (by omega)⟩))
  refine W_iload_n d_99_14 rfl ?_
  refine W_callS d_99_15 o_99 k_6_167 (by omega) (x_130 (by omega)) rfl (Nat.le_of_ble_eq_true rfl) ?_
  refine W_if_eq (tgt := 28) d_99_18 (by decide) (fun h18 => absurd h18 (fun q => bI_f q ⟨nI_pos' (by omega), nI_le (a := m) (b := 48) hm (by decide)⟩)) (fun h18 => ?_)
  refine W_iload_n d_99_21 rfl ?_
  refine W_callS d_99_22 o_99 k_6_194 (by omega) (p_132 (by omega)) rfl (Nat.le_of_ble_eq_true rfl) ?_
  refine W_if_ne (tgt := 31) d_99_25 (by decide) (fun h25 => ?_) (fun h25 => absurd h25 (fun q => bI_f q hg))
  refine W_iconst d_99_31 (v := (-1)) (by decide) ?_
  refine W_istore d_99_32 rfl ?_
  refine W_ldcI d_99_34 o_99 k_6_197 (v := 2147483647) (by decide) ?_
  refine W_istore d_99_36 rfl ?_
  refine W_iconst d_99_38 (v := 0) (by decide) ?_
  refine W_istore d_99_39 rfl ?_
  refine lp_99 (A0 := A) e0 e1 hX hm hj hd (fun A2 l2 G2 a b hA2 => ?_) 24 0 _ _ _ _ _ (by omega) (fun _ _ => rfl)
  refine W_iload_n d_99_110 rfl ?_
  refine W_bipush d_99_111 (v := 10) (by decide) ?_
  refine W_irem d_99_113 (by decide) ?_
  refine W_if_ne (tgt := 122) d_99_114 (by decide) (fun h114 => ?_) (fun h114 => ?_)
  · refine W_iload d_99_122 rfl ?_
    refine W_iret d_99_124 rt_99 rfl ?_
    exact ⟨congrArg (fun z => some (Value.int z)) (if_neg h114).symm, _, _, _, rfl, hA2⟩
  · refine W_iload d_99_117 rfl ?_
    refine W_goto (tgt := 124) d_99_119 (by decide) ?_
    refine W_iret d_99_124 rt_99 rfl ?_
    exact ⟨congrArg (fun z => some (Value.int z)) (if_pos h114).symm, _, _, _, rfl, hA2⟩
theorem p_99a {d : Nat} {g : mG} {N : Nat} {A T K : Nat → tR} {B : tR} {E : Nat → Int32} {l : Int64} {G : tR} {Qm : Nat → mC} {r0 r1 : Nat} (e0 : r0 = 0) (e1 : r1 = 1) {v w gw : Int32} (hb : ¬ (0 ≤ v ∧ v < A r0 12 0)) (hd : 3 ≤ d) : Ex d 99 [.ref 0, .int v, .int w, .int gw] (N, H3 g (cc A T K B E l G) Qm) (some (.int (-5))) (N, H3 g (cc A T K B E l G) Qm) := by
  refine Ex.of ?_
  show Wp _ 99 0 [.ref 0, .int v, .int w, .int gw, .null, .null, .null, .null, .null] [] _ _
  refine W_aload_n d_99_0 rfl (by decide) ?_
  refine W_getf d_99_1 o_99 k_6_10 rfl rfl ?_
  show Wp _ _ _ _ (Value.ref (rb 0) :: _) _ _
  rw [show rb 0 = rb r0 from by rw [e0]]
  have hq0 : r0 < 3 := by omega
  refine W_iload_n d_99_4 rfl ?_
  refine W_callV d_99_5 o_99 (Or.inl k_6_103) (by omega) (x_56 (show r0 < 3 by omega)) rfl (mrecv_of (h_road (by assumption)) o_56.symm) rfl (Nat.le_of_ble_eq_true rfl) ?_
  refine W_if_ne (tgt := 14) d_99_8 (by decide) (fun h8 => absurd (bI_ne.mpr hb) h8) (fun h8 => ?_)
  refine W_bipush d_99_11 (v := (-5)) (by decide) ?_
  refine W_iret d_99_13 rt_99 rfl ?_
  exact ⟨rfl, rfl⟩
theorem p_99b {d : Nat} {g : mG} {N : Nat} {A T K : Nat → tR} {B : tR} {E : Nat → Int32} {l : Int64} {G : tR} {Qm : Nat → mC} {r0 r1 : Nat} (e0 : r0 = 0) (e1 : r1 = 1) {v w gw : Int32} (ha : 0 ≤ v ∧ v < A r0 12 0) (hb : ¬ ((0 ≤ w ∧ w ≤ 48) ∧ ((0 ≤ gw ∧ gw ≤ 11) ∧ i_mod gw 10 ≤ 1))) (hd : 3 ≤ d) : Ex d 99 [.ref 0, .int v, .int w, .int gw] (N, H3 g (cc A T K B E l G) Qm) (some (.int (-7))) (N, H3 g (cc A T K B E l G) Qm) := by
  refine Ex.of ?_
  show Wp _ 99 0 [.ref 0, .int v, .int w, .int gw, .null, .null, .null, .null, .null] [] _ _
  refine W_aload_n d_99_0 rfl (by decide) ?_
  refine W_getf d_99_1 o_99 k_6_10 rfl rfl ?_
  show Wp _ _ _ _ (Value.ref (rb 0) :: _) _ _
  rw [show rb 0 = rb r0 from by rw [e0]]
  have hq0 : r0 < 3 := by omega
  refine W_iload_n d_99_4 rfl ?_
  refine W_callV d_99_5 o_99 (Or.inl k_6_103) (by omega) (x_56 (show r0 < 3 by omega)) rfl (mrecv_of (h_road (by assumption)) o_56.symm) rfl (Nat.le_of_ble_eq_true rfl) ?_
  refine W_if_ne (tgt := 14) d_99_8 (by decide) (fun h8 => ?_) (fun h8 => absurd h8 (fun q => bI_f q ha))
  refine W_iload_n d_99_14 rfl ?_
  refine W_callS d_99_15 o_99 k_6_167 (by omega) (x_130 (by omega)) rfl (Nat.le_of_ble_eq_true rfl) ?_
  refine W_if_eq (tgt := 28) d_99_18 (by decide) (fun h18 => ?_) (fun h18 => ?_)
  · refine W_bipush d_99_28 (v := (-7)) (by decide) ?_
    refine W_iret d_99_30 rt_99 rfl ?_
    exact ⟨rfl, rfl⟩
  · refine W_iload_n d_99_21 rfl ?_
    refine W_callS d_99_22 o_99 k_6_194 (by omega) (p_132 (by omega)) rfl (Nat.le_of_ble_eq_true rfl) ?_
    refine W_if_ne (tgt := 31) d_99_25 (by decide) (fun h25 => ?_) (fun h25 => ?_)
    · exact (hb ⟨bI_t h18, bI_t h25⟩).elim
    · refine W_bipush d_99_28 (v := (-7)) (by decide) ?_
      refine W_iret d_99_30 rt_99 rfl ?_
      exact ⟨rfl, rfl⟩
theorem lp_100 {d : Nat} {g : mG} {N : Nat} {A0 T K : Nat → tR} {B : tR} {E : Nat → Int32} {Qm : Nat → mC} {r0 r1 : Nat} (e0 : r0 = 0) (e1 : r1 = 1) {z : Nat → Nat} {n p t : Nat} (hX : CX (A0 r0) T z n p t) {m : Nat} (hm : m ≤ 48) {j : Nat} (hj : j < n) {most : Int32} (hd : 9 ≤ d) {Q : Option Value → mM → Prop} : ∀ (k i : Nat) (A : Nat → tR) (l : Int64) (G : tR), i + k = 100 → (∀ r, ¬ r = r1 → A r = A0 r) → (∀ (A' : Nat → tR) (l' : Int64) (G' : tR), (∀ r, ¬ r = r1 → A' r = A0 r) → Q (some (.int (fst1 (fun b => gon (chg (A0 r0) j 2 (nI b)) (T t) z n p m 7 j) most k i))) (N, H3 g (cc A' T K B E l' G') Qm)) → Wp d 100 37 [.ref 0, .int (nI j), .int (nI m), .int most, .int (nI i)] [] (N, H3 g (cc A T K B E l G) Qm) Q := by
  intro k
  induction k with
  | zero =>
    intro i A l G hi hA hQ
    refine W_iload d_100_37 rfl ?_
    refine W_bipush d_100_39 (v := 99) (by decide) ?_
    refine W_icmp_gt (tgt := 78) d_100_41 (by decide) (fun h41 => ?_) (fun h41 => absurd (nI_lt (a := 99) (b := i) (by omega) (by omega)) h41)
    refine W_iconst d_100_78 (v := (-1)) (by decide) ?_
    refine W_iret d_100_79 rt_100 rfl ?_
    exact hQ _ _ _ hA
  | succ k ih =>
    intro i A l G hi hA hQ
    obtain ⟨hn, hn12, hp, hp6, hlw, ht, hL⟩ := hX
    have hr0 := hA r0 (by omega)
    have hn' : A r0 12 0 = nI n := by rw [hr0]; exact hn
    have hp' : A r0 12 1 = nI p := by rw [hr0]; exact hp
    have hlw' : A r0 12 4 = nI t := by rw [hr0]; exact hlw
    have hj12 : j < 12 := by omega
    refine W_iload d_100_37 rfl ?_
    refine W_bipush d_100_39 (v := 99) (by decide) ?_
    refine W_icmp_gt (tgt := 78) d_100_41 (by decide) (fun h41 => absurd h41 (nI_nlt (a := 99) (b := i) (by omega) (by omega))) (fun h41 => ?_)
    refine W_aload_n d_100_44 rfl (by decide) ?_
    refine W_iload_n d_100_45 rfl ?_
    refine W_iconst d_100_46 (v := 2) (by decide) ?_
    refine W_iload d_100_47 rfl ?_
    refine W_iload_n d_100_49 rfl ?_
    refine W_callVG d_100_50 o_100 (Or.inl k_6_198) (by omega) (x_124 e0 e1 ht hL hn' hn12 hp' hp6 hlw' (m := m) (by omega) (j := j) (by omega) (by omega)) rfl (mrecv_of rfl o_124.symm) rfl (Nat.le_of_ble_eq_true rfl) (fun G' => ?_)
    have hq := tho_eq (Lr := T t) (z := z) (A := A) (r0 := r0) (r1 := r1) (p := p) (by omega) hn12 hp6 hn' m (j := j) (w := 2) (v := nI i)
    rw [hr0] at hq
    have hne : ∀ r, ¬ r = r1 → hrs (ochg (bkA A r1 r0 n) r1 j (2) (nI i)) r1 (T t) z n p m r = A0 r := fun r hr => (tho_ne hr).trans (hA r hr)
    have hn1 : hrs (ochg (bkA A r1 r0 n) r1 j (2) (nI i)) r1 (T t) z n p m r1 12 0 = nI n := (hrs_ap _ _ _ _ _ _ _ _ (by decide) _).trans ((ochg_12 _ _ _ _ _ _ _).trans ((bkA_12 _ _ _ _ 0 (by decide)).trans hn'))
    generalize hrs (ochg (bkA A r1 r0 n) r1 j (2) (nI i)) r1 (T t) z n p m = A2 at hq hne hn1 ⊢
    refine W_aload_n d_100_53 rfl (by decide) ?_
    refine W_getf d_100_54 o_100 k_6_16 rfl rfl ?_
    show Wp _ _ _ _ (Value.ref (rb 1) :: _) _ _
    rw [show rb 1 = rb r1 from by rw [e1]]
    have hq1 : r1 < 3 := by omega
    refine W_getf d_100_57 o_100 k_6_121 (h_road (by assumption)) rfl ?_
    refine W_iload_n d_100_60 rfl ?_
    refine W_aald d_100_61 (h_owners (by assumption)) (vp_in_nI (by omega) (by decide)) (owa_v (by omega)) ?_
    refine W_getf d_100_62 o_100 k_6_185 (h_owner (by assumption) (by assumption)) rfl ?_
    refine W_iload_n d_100_65 rfl ?_
    refine W_icmp_gt (tgt := 72) d_100_66 (by decide) (fun h66 => ?_) (fun h66 => ?_)
    · refine W_iinc (v := 1) d_100_72 rfl (by decide) rfl ?_
      rw [show ((nI i + 1 : Int32)) = nI (i + 1) from nI_add i 1]
      refine W_goto (tgt := 37) d_100_75 (by decide) ?_
      refine ih (i + 1) _ _ _ (by omega) hne (fun A3 l3 G3 hA3 => ?_)
      have q := hQ A3 l3 G3 hA3
      have e := hq.lo (a := 7) (b := j) (by decide) hj
      rw [e] at h66
      rw [fst1, if_neg (show ¬ (fun b => gon (chg (A0 r0) j 2 (nI b)) (T t) z n p m 7 j) i ≤ most from Int32.not_le.mpr h66)] at q
      exact q
    · refine W_iload d_100_69 rfl ?_
      refine W_iret d_100_71 rt_100 rfl ?_
      have q := hQ A2 l G' hne
      have e := hq.lo (a := 7) (b := j) (by decide) hj
      rw [e] at h66
      rw [fst1, if_pos (show (fun b => gon (chg (A0 r0) j 2 (nI b)) (T t) z n p m 7 j) i ≤ most from Int32.not_lt.mp h66)] at q
      exact q
theorem p_100 {d : Nat} {g : mG} {N : Nat} {A T K : Nat → tR} {B : tR} {E : Nat → Int32} {l : Int64} {G : tR} {Qm : Nat → mC} {r0 r1 : Nat} (e0 : r0 = 0) (e1 : r1 = 1) {z : Nat → Nat} {n p t : Nat} (hX : CX (A r0) T z n p t) {m : Nat} (hm : m ≤ 48) {j : Nat} (hj : j < n) {most : Int32} (hg : 0 ≤ most ∧ most ≤ 9999) (hd : 9 ≤ d) : Wp d 100 0 (ment 100 [.ref 0, .int (nI j), .int (nI m), .int most]) [] (N, H3 g (cc A T K B E l G) Qm) (fun v M' => v = some (.int (fst1 (fun b => gon (chg (A r0) j 2 (nI b)) (T t) z n p m 7 j) most 100 0)) ∧ ∃ A' l' G', M' = (N, H3 g (cc A' T K B E l' G') Qm) ∧ ∀ r, ¬ r = r1 → A' r = A r) := by
  have hn := hX.1
  have hn12 := hX.2.1
  show Wp _ 100 0 [.ref 0, .int (nI j), .int (nI m), .int most, .null] [] _ _
  refine W_aload_n d_100_0 rfl (by decide) ?_
  refine W_getf d_100_1 o_100 k_6_10 rfl rfl ?_
  show Wp _ _ _ _ (Value.ref (rb 0) :: _) _ _
  rw [show rb 0 = rb r0 from by rw [e0]]
  have hq0 : r0 < 3 := by omega
  refine W_iload_n d_100_4 rfl ?_
  refine W_callV d_100_5 o_100 (Or.inl k_6_103) (by omega) (x_56 (show r0 < 3 by omega)) rfl (mrecv_of (h_road (by assumption)) o_56.symm) rfl (Nat.le_of_ble_eq_true rfl) ?_
  refine W_if_ne (tgt := 14) d_100_8 (by decide) (fun h8 => ?_) (fun h8 => absurd h8 (fun q => bI_f q ⟨nI_pos' (by omega), by rw [hn]; exact nI_lt hj (by omega)⟩))
  refine W_iload_n d_100_14 rfl ?_
  refine W_callS d_100_15 o_100 k_6_167 (by omega) (x_130 (by omega)) rfl (Nat.le_of_ble_eq_true rfl) ?_
  refine W_if_eq (tgt := 31) d_100_18 (by decide) (fun h18 => absurd h18 (fun q => bI_f q ⟨nI_pos' (by omega), nI_le (a := m) (b := 48) hm (by decide)⟩)) (fun h18 => ?_)
  refine W_iload_n d_100_21 rfl ?_
  refine W_sipush d_100_22 (v := 9999) (by decide) ?_
  refine W_callS d_100_25 o_100 k_6_95 (by omega) x_126 rfl (Nat.le_of_ble_eq_true rfl) ?_
  refine W_if_ne (tgt := 34) d_100_28 (by decide) (fun h28 => ?_) (fun h28 => absurd h28 (fun q => bI_f q hg))
  refine W_iconst d_100_34 (v := 0) (by decide) ?_
  refine W_istore d_100_35 rfl ?_
  exact lp_100 (A0 := A) e0 e1 hX hm hj hd 100 0 _ _ _ (by omega) (fun _ _ => rfl) (fun A2 l2 G2 hA2 => ⟨rfl, _, _, _, rfl, hA2⟩)
theorem p_100a {d : Nat} {g : mG} {N : Nat} {A T K : Nat → tR} {B : tR} {E : Nat → Int32} {l : Int64} {G : tR} {Qm : Nat → mC} {r0 r1 : Nat} (e0 : r0 = 0) (e1 : r1 = 1) {v w gw : Int32} (hb : ¬ (0 ≤ v ∧ v < A r0 12 0)) (hd : 3 ≤ d) : Ex d 100 [.ref 0, .int v, .int w, .int gw] (N, H3 g (cc A T K B E l G) Qm) (some (.int (-5))) (N, H3 g (cc A T K B E l G) Qm) := by
  refine Ex.of ?_
  show Wp _ 100 0 [.ref 0, .int v, .int w, .int gw, .null] [] _ _
  refine W_aload_n d_100_0 rfl (by decide) ?_
  refine W_getf d_100_1 o_100 k_6_10 rfl rfl ?_
  show Wp _ _ _ _ (Value.ref (rb 0) :: _) _ _
  rw [show rb 0 = rb r0 from by rw [e0]]
  have hq0 : r0 < 3 := by omega
  refine W_iload_n d_100_4 rfl ?_
  refine W_callV d_100_5 o_100 (Or.inl k_6_103) (by omega) (x_56 (show r0 < 3 by omega)) rfl (mrecv_of (h_road (by assumption)) o_56.symm) rfl (Nat.le_of_ble_eq_true rfl) ?_
  refine W_if_ne (tgt := 14) d_100_8 (by decide) (fun h8 => absurd (bI_ne.mpr hb) h8) (fun h8 => ?_)
  refine W_bipush d_100_11 (v := (-5)) (by decide) ?_
  refine W_iret d_100_13 rt_100 rfl ?_
  exact ⟨rfl, rfl⟩
theorem p_100b {d : Nat} {g : mG} {N : Nat} {A T K : Nat → tR} {B : tR} {E : Nat → Int32} {l : Int64} {G : tR} {Qm : Nat → mC} {r0 r1 : Nat} (e0 : r0 = 0) (e1 : r1 = 1) {v w gw : Int32} (ha : 0 ≤ v ∧ v < A r0 12 0) (hb : ¬ ((0 ≤ w ∧ w ≤ 48) ∧ (0 ≤ gw ∧ gw ≤ 9999))) (hd : 3 ≤ d) : Ex d 100 [.ref 0, .int v, .int w, .int gw] (N, H3 g (cc A T K B E l G) Qm) (some (.int (-7))) (N, H3 g (cc A T K B E l G) Qm) := by
  refine Ex.of ?_
  show Wp _ 100 0 [.ref 0, .int v, .int w, .int gw, .null] [] _ _
  refine W_aload_n d_100_0 rfl (by decide) ?_
  refine W_getf d_100_1 o_100 k_6_10 rfl rfl ?_
  show Wp _ _ _ _ (Value.ref (rb 0) :: _) _ _
  rw [show rb 0 = rb r0 from by rw [e0]]
  have hq0 : r0 < 3 := by omega
  refine W_iload_n d_100_4 rfl ?_
  refine W_callV d_100_5 o_100 (Or.inl k_6_103) (by omega) (x_56 (show r0 < 3 by omega)) rfl (mrecv_of (h_road (by assumption)) o_56.symm) rfl (Nat.le_of_ble_eq_true rfl) ?_
  refine W_if_ne (tgt := 14) d_100_8 (by decide) (fun h8 => ?_) (fun h8 => absurd h8 (fun q => bI_f q ha))
  refine W_iload_n d_100_14 rfl ?_
  refine W_callS d_100_15 o_100 k_6_167 (by omega) (x_130 (by omega)) rfl (Nat.le_of_ble_eq_true rfl) ?_
  refine W_if_eq (tgt := 31) d_100_18 (by decide) (fun h18 => ?_) (fun h18 => ?_)
  · refine W_bipush d_100_31 (v := (-7)) (by decide) ?_
    refine W_iret d_100_33 rt_100 rfl ?_
    exact ⟨rfl, rfl⟩
  · refine W_iload_n d_100_21 rfl ?_
    refine W_sipush d_100_22 (v := 9999) (by decide) ?_
    refine W_callS d_100_25 o_100 k_6_95 (by omega) x_126 rfl (Nat.le_of_ble_eq_true rfl) ?_
    refine W_if_ne (tgt := 34) d_100_28 (by decide) (fun h28 => ?_) (fun h28 => ?_)
    · exact (hb ⟨bI_t h18, bI_t h28⟩).elim
    · refine W_bipush d_100_31 (v := (-7)) (by decide) ?_
      refine W_iret d_100_33 rt_100 rfl ?_
      exact ⟨rfl, rfl⟩
theorem lp_101 {d : Nat} {g : mG} {N : Nat} {A0 T K : Nat → tR} {B : tR} {E : Nat → Int32} {Qm : Nat → mC} {r0 r1 : Nat} (e0 : r0 = 0) (e1 : r1 = 1) {z : Nat → Nat} {n p t : Nat} (hX : CX (A0 r0) T z n p t) {m : Nat} (hm : m ≤ 48) {w : Int32} (hd : 9 ≤ d) {Q : Option Value → mM → Prop} (kk : ∀ (A : Nat → tR) (l : Int64) (G : tR) (a : Value), (∀ r, ¬ r = r1 → A r = A0 r) → Wp d 101 92 [.ref 0, .int (nI m), .int w, .int (bst (-1, sm7 (gon (A0 r0) (T t) z n p m) n) (fun g => sm7 (gon (chg (A0 r0) g 4 1) (T t) z n p m) n) n).1, .int (bst (-1, sm7 (gon (A0 r0) (T t) z n p m) n) (fun g => sm7 (gon (chg (A0 r0) g 4 1) (T t) z n p m) n) n).2, .int (nI n), a] [] (N, H3 g (cc A T K B E l G) Qm) Q) : ∀ (k i : Nat) (A : Nat → tR) (l : Int64) (G : tR) (a : Value), i + k = n → (∀ r, ¬ r = r1 → A r = A0 r) → Wp d 101 42 [.ref 0, .int (nI m), .int w, .int (bst (-1, sm7 (gon (A0 r0) (T t) z n p m) n) (fun g => sm7 (gon (chg (A0 r0) g 4 1) (T t) z n p m) n) i).1, .int (bst (-1, sm7 (gon (A0 r0) (T t) z n p m) n) (fun g => sm7 (gon (chg (A0 r0) g 4 1) (T t) z n p m) n) i).2, .int (nI i), a] [] (N, H3 g (cc A T K B E l G) Qm) Q := by
  intro k
  induction k with
  | zero =>
    intro i A l G a hi hA
    have ei : i = n := by omega
    obtain ⟨hn, hn12, hp, hp6, hlw, ht, hL⟩ := hX
    have hr0 := hA r0 (by omega)
    have hn' : A r0 12 0 = nI n := by rw [hr0]; exact hn
    have hp' : A r0 12 1 = nI p := by rw [hr0]; exact hp
    have hlw' : A r0 12 4 = nI t := by rw [hr0]; exact hlw
    refine W_iload d_101_42 rfl ?_
    refine W_aload_n d_101_44 rfl (by decide) ?_
    refine W_getf d_101_45 o_101 k_6_10 rfl rfl ?_
    show Wp _ _ _ _ (Value.ref (rb 0) :: _) _ _
    rw [show rb 0 = rb r0 from by rw [e0]]
    have hq0 : r0 < 3 := by omega
    refine W_getf d_101_48 o_101 k_6_77 (h_road (by assumption)) rfl ?_
    rw [hn']
    refine W_icmp_ge (tgt := 92) d_101_51 (by decide) (fun h51 => ?_) (fun h51 => absurd (nI_le (a := n) (b := i) (by omega) (by omega)) h51)
    rw [ei]
    exact kk _ _ _ _ hA
  | succ k ih =>
    intro i A l G a hi hA
    obtain ⟨hn, hn12, hp, hp6, hlw, ht, hL⟩ := hX
    have hr0 := hA r0 (by omega)
    have hn' : A r0 12 0 = nI n := by rw [hr0]; exact hn
    have hp' : A r0 12 1 = nI p := by rw [hr0]; exact hp
    have hlw' : A r0 12 4 = nI t := by rw [hr0]; exact hlw
    refine W_iload d_101_42 rfl ?_
    refine W_aload_n d_101_44 rfl (by decide) ?_
    refine W_getf d_101_45 o_101 k_6_10 rfl rfl ?_
    show Wp _ _ _ _ (Value.ref (rb 0) :: _) _ _
    rw [show rb 0 = rb r0 from by rw [e0]]
    have hq0 : r0 < 3 := by omega
    refine W_getf d_101_48 o_101 k_6_77 (h_road (by assumption)) rfl ?_
    rw [hn']
    refine W_icmp_ge (tgt := 92) d_101_51 (by decide) (fun h51 => absurd h51 (nI_ge (a := i) (b := n) (by omega) (by omega))) (fun h51 => ?_)
    refine W_aload_n d_101_54 rfl (by decide) ?_
    refine W_iload d_101_55 rfl ?_
    refine W_iconst d_101_57 (v := 4) (by decide) ?_
    refine W_iconst d_101_58 (v := 1) (by decide) ?_
    refine W_iload_n d_101_59 rfl ?_
    refine W_callVG d_101_60 o_101 (Or.inl k_6_198) (by omega) (x_124 e0 e1 ht hL hn' hn12 hp' hp6 hlw' (m := m) (by omega) (j := i) (by omega) (by omega)) rfl (mrecv_of rfl o_124.symm) rfl (Nat.le_of_ble_eq_true rfl) (fun G' => ?_)
    have hq := tho_eq (Lr := T t) (z := z) (A := A) (r0 := r0) (r1 := r1) (p := p) (by omega) hn12 hp6 hn' m (j := i) (w := 4) (v := 1)
    rw [hr0] at hq
    have hne : ∀ r, ¬ r = r1 → hrs (ochg (bkA A r1 r0 n) r1 i (4) (1)) r1 (T t) z n p m r = A0 r := fun r hr => (tho_ne hr).trans (hA r hr)
    have hn1 : hrs (ochg (bkA A r1 r0 n) r1 i (4) (1)) r1 (T t) z n p m r1 12 0 = nI n := (hrs_ap _ _ _ _ _ _ _ _ (by decide) _).trans ((ochg_12 _ _ _ _ _ _ _).trans ((bkA_12 _ _ _ _ 0 (by decide)).trans hn'))
    generalize hrs (ochg (bkA A r1 r0 n) r1 i (4) (1)) r1 (T t) z n p m = A2 at hq hne hn1 ⊢
    refine W_aload_n d_101_63 rfl (by decide) ?_
    refine W_getf d_101_64 o_101 k_6_16 rfl rfl ?_
    show Wp _ _ _ _ (Value.ref (rb 1) :: _) _ _
    rw [show rb 1 = rb r1 from by rw [e1]]
    have hq1 : r1 < 3 := by omega
    refine W_callV d_101_67 o_101 (Or.inl k_6_164) (by omega) (x_71 (show r1 < 3 by omega) hn1 hn12) rfl (mrecv_of (h_road (by assumption)) o_71.symm) rfl (Nat.le_of_ble_eq_true rfl) ?_
    refine W_istore d_101_70 rfl ?_
    refine W_iload d_101_72 rfl ?_
    refine W_iload d_101_74 rfl ?_
    refine W_icmp_ge (tgt := 86) d_101_76 (by decide) (fun h76 => ?_) (fun h76 => ?_)
    · refine W_iinc (v := 1) d_101_86 rfl (by decide) rfl ?_
      rw [show ((nI i + 1 : Int32)) = nI (i + 1) from nI_add i 1]
      refine W_goto (tgt := 42) d_101_89 (by decide) ?_
      have h9 := fun a => ih (i + 1) A2 l G' a (by omega) hne
      rw [bst_f (f := (fun g => sm7 (gon (chg (A0 r0) g 4 1) (T t) z n p m) n)) (c := (-1, sm7 (gon (A0 r0) (T t) z n p m) n)) (i := i) (v := sm7 (A2 r1) n) hq.sm7 (Int32.not_lt.mpr h76)] at h9
      exact h9 _
    · refine W_iload d_101_79 rfl ?_
      refine W_istore d_101_81 rfl ?_
      refine W_iload d_101_83 rfl ?_
      refine W_istore_n d_101_85 rfl ?_
      refine W_iinc (v := 1) d_101_86 rfl (by decide) rfl ?_
      rw [show ((nI i + 1 : Int32)) = nI (i + 1) from nI_add i 1]
      refine W_goto (tgt := 42) d_101_89 (by decide) ?_
      have h9 := fun a => ih (i + 1) A2 l G' a (by omega) hne
      rw [bst_t (f := (fun g => sm7 (gon (chg (A0 r0) g 4 1) (T t) z n p m) n)) (c := (-1, sm7 (gon (A0 r0) (T t) z n p m) n)) (i := i) (v := sm7 (A2 r1) n) hq.sm7 (Int32.not_le.mp h76)] at h9
      exact h9 _
theorem p_101 {d : Nat} {g : mG} {N : Nat} {A T K : Nat → tR} {B : tR} {E : Nat → Int32} {l : Int64} {G : tR} {Qm : Nat → mC} {r0 r1 : Nat} (e0 : r0 = 0) (e1 : r1 = 1) {z : Nat → Nat} {n p t : Nat} (hX : CX (A r0) T z n p t) {m : Nat} (hm : m ≤ 48) {w : Int32} (hw : 0 ≤ w ∧ w ≤ 1) (hd : 9 ≤ d) : Wp d 101 0 (ment 101 [.ref 0, .int (nI m), .int w]) [] (N, H3 g (cc A T K B E l G) Qm) (fun v M' => v = some (.int (pk w (bst (-1, sm7 (gon (A r0) (T t) z n p m) n) (fun g => sm7 (gon (chg (A r0) g 4 1) (T t) z n p m) n) n))) ∧ ∃ A' l' G', M' = (N, H3 g (cc A' T K B E l' G') Qm) ∧ ∀ r, ¬ r = r1 → A' r = A r) := by
  obtain ⟨hn, hn12, hp, hp6, hlw, ht, hL⟩ := hX
  show Wp _ 101 0 [.ref 0, .int (nI m), .int w, .null, .null, .null, .null] [] _ _
  refine W_iload_n d_101_0 rfl ?_
  refine W_callS d_101_1 o_101 k_6_167 (by omega) (x_130 (by omega)) rfl (Nat.le_of_ble_eq_true rfl) ?_
  refine W_if_eq (tgt := 16) d_101_4 (by decide) (fun h4 => absurd h4 (fun q => bI_f q ⟨nI_pos' (by omega), nI_le (a := m) (b := 48) hm (by decide)⟩)) (fun h4 => ?_)
  refine W_iload_n d_101_7 rfl ?_
  refine W_if_lt (tgt := 16) d_101_8 (by decide) (fun h8 => absurd h8 (Int32.not_lt.mpr hw.1)) (fun h8 => ?_)
  refine W_iload_n d_101_11 rfl ?_
  refine W_iconst d_101_12 (v := 1) (by decide) ?_
  refine W_icmp_le (tgt := 19) d_101_13 (by decide) (fun h13 => ?_) (fun h13 => absurd hw.2 h13)
  refine W_aload_n d_101_19 rfl (by decide) ?_
  refine W_callV d_101_20 o_101 (Or.inl k_6_176) (by omega) (x_122 e0 e1 hn hn12 (by omega)) rfl (mrecv_of rfl o_122.symm) rfl (Nat.le_of_ble_eq_true rfl) ?_
  refine W_aload_n d_101_23 rfl (by decide) ?_
  refine W_iload_n d_101_24 rfl ?_
  refine W_callVG d_101_25 o_101 (Or.inl k_6_179) (by omega) (x_123 e0 e1 ht hL ((bkA_12 _ _ _ _ 0 (by decide)).trans hn) hn12 ((bkA_12 _ _ _ _ 1 (by decide)).trans hp) hp6 ((bkA_12 _ _ _ _ 4 (by decide)).trans hlw) (by omega) (by omega)) rfl (mrecv_of rfl o_123.symm) rfl (Nat.le_of_ble_eq_true rfl) (fun G' => ?_)
  have hq := th_eq (Lr := T t) (z := z) (A := A) (r0 := r0) (r1 := r1) (p := p) (by omega) hn12 hp6 hn m
  have hne : ∀ r, ¬ r = r1 → hrs (bkA A r1 r0 n) r1 (T t) z n p m r = A r := fun r hr => th_ne hr
  have hn1 : hrs (bkA A r1 r0 n) r1 (T t) z n p m r1 12 0 = nI n := (hrs_ap _ _ _ _ _ _ _ _ (by decide) _).trans ((bkA_12 _ _ _ _ 0 (by decide)).trans hn)
  generalize hrs (bkA A r1 r0 n) r1 (T t) z n p m = A2 at hq hne hn1 ⊢
  refine W_iconst d_101_28 (v := (-1)) (by decide) ?_
  refine W_istore_n d_101_29 rfl ?_
  refine W_aload_n d_101_30 rfl (by decide) ?_
  refine W_getf d_101_31 o_101 k_6_16 rfl rfl ?_
  show Wp _ _ _ _ (Value.ref (rb 1) :: _) _ _
  rw [show rb 1 = rb r1 from by rw [e1]]
  have hq1 : r1 < 3 := by omega
  refine W_callV d_101_34 o_101 (Or.inl k_6_164) (by omega) (x_71 (show r1 < 3 by omega) hn1 hn12) rfl (mrecv_of (h_road (by assumption)) o_71.symm) rfl (Nat.le_of_ble_eq_true rfl) ?_
  rw [hq.sm7]
  refine W_istore d_101_37 rfl ?_
  refine W_iconst d_101_39 (v := 0) (by decide) ?_
  refine W_istore d_101_40 rfl ?_
  refine lp_101 (A0 := A) e0 e1 ⟨hn, hn12, hp, hp6, hlw, ht, hL⟩ hm hd (fun A3 l3 G3 a hA3 => ?_) n 0 A2 _ _ _ (by omega) hne
  refine W_iload_n d_101_92 rfl ?_
  refine W_if_ne (tgt := 100) d_101_93 (by decide) (fun h93 => ?_) (fun h93 => ?_)
  · refine W_iload d_101_100 rfl ?_
    refine W_iret d_101_102 rt_101 rfl ?_
    exact ⟨congrArg (fun z => some (Value.int z)) (if_neg h93).symm, _, _, _, rfl, hA3⟩
  · refine W_iload_n d_101_96 rfl ?_
    refine W_goto (tgt := 102) d_101_97 (by decide) ?_
    refine W_iret d_101_102 rt_101 rfl ?_
    exact ⟨congrArg (fun z => some (Value.int z)) (if_pos h93).symm, _, _, _, rfl, hA3⟩
theorem p_101b {d : Nat} {g : mG} {N : Nat} {A T K : Nat → tR} {B : tR} {E : Nat → Int32} {l : Int64} {G : tR} {Qm : Nat → mC} {r0 r1 : Nat} (e0 : r0 = 0) (e1 : r1 = 1) {v w gw : Int32} (hb : ¬ ((0 ≤ v ∧ v ≤ 48) ∧ 0 ≤ w ∧ w ≤ 1)) (hd : 3 ≤ d) : Ex d 101 [.ref 0, .int v, .int w] (N, H3 g (cc A T K B E l G) Qm) (some (.int (-2))) (N, H3 g (cc A T K B E l G) Qm) := by
  refine Ex.of ?_
  show Wp _ 101 0 [.ref 0, .int v, .int w, .null, .null, .null, .null] [] _ _
  refine W_iload_n d_101_0 rfl ?_
  refine W_callS d_101_1 o_101 k_6_167 (by omega) (x_130 (by omega)) rfl (Nat.le_of_ble_eq_true rfl) ?_
  refine W_if_eq (tgt := 16) d_101_4 (by decide) (fun h4 => ?_) (fun h4 => ?_)
  · refine W_bipush d_101_16 (v := (-2)) (by decide) ?_
    refine W_iret d_101_18 rt_101 rfl ?_
    exact ⟨rfl, rfl⟩
  · refine W_iload_n d_101_7 rfl ?_
    refine W_if_lt (tgt := 16) d_101_8 (by decide) (fun h8 => ?_) (fun h8 => ?_)
    · refine W_bipush d_101_16 (v := (-2)) (by decide) ?_
      refine W_iret d_101_18 rt_101 rfl ?_
      exact ⟨rfl, rfl⟩
    · refine W_iload_n d_101_11 rfl ?_
      refine W_iconst d_101_12 (v := 1) (by decide) ?_
      refine W_icmp_le (tgt := 19) d_101_13 (by decide) (fun h13 => ?_) (fun h13 => ?_)
      · exact (hb ⟨bI_t h4, Int32.not_lt.mp h8, h13⟩).elim
      · refine W_bipush d_101_16 (v := (-2)) (by decide) ?_
        refine W_iret d_101_18 rt_101 rfl ?_
        exact ⟨rfl, rfl⟩
