/-! WHAT IS BEST: sides, gains, helps (wip/whole/gen34.py) -/
theorem gon_of {A : Nat → tR} {r1 n p : Nat} {Lr : tR} {z : Nat → Nat} (hn12 : n ≤ 12) (hp6 : p ≤ 6) {R : tR} (h : EQ n (A r1) (zt R)) (hn : A r1 12 0 = nI n) (m : Nat) : EQ n (hrs A r1 Lr z n p m r1) (gon R Lr z n p m) :=
  hrs_eq (A' := fun _ => zt R) (r' := 0) hn12 hp6 h hn m
def tps (R : tR) (b : Int32) (p : Nat) : tR := fun a k => if a = 11 ∧ k < p then (b >>> (nI k &&& 31)) &&& 1 else R a k
theorem tps_eq {A : Nat → tR} {r1 n p : Nat} {R : tR} {b : Int32} (h : EQ n (A r1) (zt R)) : EQ n (tpA A r1 b p r1) (zt (tps R b p)) := by
  intro a k u
  rw [tpA_ap]
  have q := h a k u
  unfold zt at q ⊢
  unfold tps
  by_cases e : a = 11 ∧ k < p
  · rw [if_pos ⟨rfl, e⟩, if_neg (by omega), if_pos e]
  · rw [if_neg (fun t => e t.2), if_neg e]; exact q
def lik (R : tR) (j o : Nat) : tR := fun a b => if a = 0 ∧ b = o then R 0 j else if a = 1 ∧ b = o then R 1 j else R a b
theorem lik_eq {A : Nat → tR} {r1 n j o : Nat} {R : tR} (h : EQ n (A r1) (zt R)) (hj : j < n) : EQ n (u3 (u3 A r1 0 o (A r1 0 j)) r1 1 o (u3 A r1 0 o (A r1 0 j) r1 1 j) r1) (zt (lik R j o)) := by
  have k0 : A r1 0 j = R 0 j := h.lo (a := 0) (b := j) (by decide) hj
  have k1 : A r1 1 j = R 1 j := h.lo (a := 1) (b := j) (by decide) hj
  intro a b u
  have q := h a b u
  rw [u3_ap, u3_ap, u3_ap, if_neg (show ¬ (r1 = r1 ∧ 1 = 0 ∧ j = o) by omega), k0, k1]
  unfold zt at q ⊢
  unfold lik
  by_cases e1 : a = 1 ∧ b = o
  · rw [if_pos ⟨rfl, e1⟩, if_neg (by omega), if_neg (by omega), if_pos e1]
  · rw [if_neg (fun t => e1 t.2)]
    by_cases e0 : a = 0 ∧ b = o
    · rw [if_pos ⟨rfl, e0⟩, if_neg (by omega), if_pos e0]
    · rw [if_neg (fun t => e0 t.2), if_neg e0, if_neg e1]; exact q
theorem shl1 {p : Nat} (hp : p ≤ 6) : (1 : Int32) <<< (nI p &&& 31) = nI (2 ^ p) := by
  have : p = 0 ∨ p = 1 ∨ p = 2 ∨ p = 3 ∨ p = 4 ∨ p = 5 ∨ p = 6 := by omega
  rcases this with rfl | rfl | rfl | rfl | rfl | rfl | rfl <;> decide
theorem p2_le {p : Nat} (hp : p ≤ 6) : 2 ^ p ≤ 64 := by
  have : p = 0 ∨ p = 1 ∨ p = 2 ∨ p = 3 ∨ p = 4 ∨ p = 5 ∨ p = 6 := by omega
  rcases this with rfl | rfl | rfl | rfl | rfl | rfl | rfl <;> decide
def sdF (R Lr : tR) (z : Nat → Nat) (n p m : Nat) (gw : Int32) (b : Nat) : Int32 := if gw < 10 then sm8 (gon (tps R (nI b) p) Lr z n p m) n else mom (gon (tps R (nI b) p) Lr z n p m) n
def hlF (R Lr : tR) (z : Nat → Nat) (n p m j o : Nat) : Int32 := if o = j then 2147483647 else gon (lik R j o) Lr z n p m 7 j + gon (lik R j o) Lr z n p m 7 o
theorem lp_102 {d : Nat} {g : mG} {N : Nat} {A0 T K : Nat → tR} {B : tR} {E : Nat → Int32} {Qm : Nat → mC} {r0 r1 : Nat} (e0 : r0 = 0) (e1 : r1 = 1) {z : Nat → Nat} {n p t : Nat} (hX : CX (A0 r0) T z n p t) {m : Nat} (hm : m ≤ 48) {gw : Int32} (hd : 9 ≤ d) {Q : Option Value → mM → Prop} (kk : ∀ (A : Nat → tR) (l : Int64) (G : tR) (a : Value), (∀ r, ¬ r = r1 → A r = A0 r) → Wp d 102 103 [.ref 0, .int (nI m), .int gw, .int (bst (-1, 2147483647) (sdF (A0 r0) (T t) z n p m gw) (2 ^ p)).1, .int (bst (-1, 2147483647) (sdF (A0 r0) (T t) z n p m gw) (2 ^ p)).2, .int (nI (2 ^ p)), a] [] (N, H3 g (cc A T K B E l G) Qm) Q) : ∀ (k i : Nat) (A : Nat → tR) (l : Int64) (G : tR) (a : Value), i + k = (2 ^ p) → (∀ r, ¬ r = r1 → A r = A0 r) → Wp d 102 26 [.ref 0, .int (nI m), .int gw, .int (bst (-1, 2147483647) (sdF (A0 r0) (T t) z n p m gw) i).1, .int (bst (-1, 2147483647) (sdF (A0 r0) (T t) z n p m gw) i).2, .int (nI i), a] [] (N, H3 g (cc A T K B E l G) Qm) Q := by
  intro k
  induction k with
  | zero =>
    intro i A l G a hi hA
    have ei : i = (2 ^ p) := by omega
    obtain ⟨hn, hn12, hp, hp6, hlw, ht, hL⟩ := hX
    have hr0 := hA r0 (by omega)
    have hn' : A r0 12 0 = nI n := by rw [hr0]; exact hn
    have hp' : A r0 12 1 = nI p := by rw [hr0]; exact hp
    have hlw' : A r0 12 4 = nI t := by rw [hr0]; exact hlw
    have hp2 := p2_le (p := p) hp6
    refine W_iload d_102_26 rfl ?_
    refine W_iconst d_102_28 (v := 1) (by decide) ?_
    refine W_aload_n d_102_29 rfl (by decide) ?_
    refine W_getf d_102_30 o_102 k_6_10 rfl rfl ?_
    show Wp _ _ _ _ (Value.ref (rb 0) :: _) _ _
    rw [show rb 0 = rb r0 from by rw [e0]]
    have hq0 : r0 < 3 := by omega
    refine W_getf d_102_33 o_102 k_6_80 (h_road (by assumption)) rfl ?_
    rw [hp']
    refine W_ishl d_102_36 ?_
    rw [shl1 hp6]
    refine W_icmp_ge (tgt := 103) d_102_37 (by decide) (fun h37 => ?_) (fun h37 => absurd (nI_le (a := 2 ^ p) (b := i) (by omega) (by omega)) h37)
    rw [ei]
    exact kk _ _ _ _ hA
  | succ k ih =>
    intro i A l G a hi hA
    obtain ⟨hn, hn12, hp, hp6, hlw, ht, hL⟩ := hX
    have hr0 := hA r0 (by omega)
    have hn' : A r0 12 0 = nI n := by rw [hr0]; exact hn
    have hp' : A r0 12 1 = nI p := by rw [hr0]; exact hp
    have hlw' : A r0 12 4 = nI t := by rw [hr0]; exact hlw
    have hp2 := p2_le (p := p) hp6
    refine W_iload d_102_26 rfl ?_
    refine W_iconst d_102_28 (v := 1) (by decide) ?_
    refine W_aload_n d_102_29 rfl (by decide) ?_
    refine W_getf d_102_30 o_102 k_6_10 rfl rfl ?_
    show Wp _ _ _ _ (Value.ref (rb 0) :: _) _ _
    rw [show rb 0 = rb r0 from by rw [e0]]
    have hq0 : r0 < 3 := by omega
    refine W_getf d_102_33 o_102 k_6_80 (h_road (by assumption)) rfl ?_
    rw [hp']
    refine W_ishl d_102_36 ?_
    rw [shl1 hp6]
    refine W_icmp_ge (tgt := 103) d_102_37 (by decide) (fun h37 => absurd h37 (nI_ge (a := i) (b := 2 ^ p) (by omega) (by omega))) (fun h37 => ?_)
    refine W_aload_n d_102_40 rfl (by decide) ?_
    refine W_callV d_102_41 o_102 (Or.inl k_6_176) (by omega) (x_122 e0 e1 hn' hn12 (by omega)) rfl (mrecv_of rfl o_122.symm) rfl (Nat.le_of_ble_eq_true rfl) ?_
    refine W_aload_n d_102_44 rfl (by decide) ?_
    refine W_getf d_102_45 o_102 k_6_16 rfl rfl ?_
    show Wp _ _ _ _ (Value.ref (rb 1) :: _) _ _
    rw [show rb 1 = rb r1 from by rw [e1]]
    have hq1 : r1 < 3 := by omega
    refine W_iload d_102_48 rfl ?_
    refine W_callV d_102_50 o_102 (Or.inl k_6_202) (by omega) (x_60 (show r1 < 3 by omega) (n := p) ((bkA_12 _ _ _ _ 1 (by decide)).trans hp') hp6) rfl (mrecv_of (h_road (by assumption)) o_60.symm) rfl (Nat.le_of_ble_eq_true rfl) ?_
    refine W_aload_n d_102_53 rfl (by decide) ?_
    refine W_iload_n d_102_54 rfl ?_
    refine W_callVG d_102_55 o_102 (Or.inl k_6_179) (by omega) (x_123 e0 e1 ht hL (show (tpA (bkA A r1 r0 n) r1 (nI i) p) r1 12 0 = _ by rw [tpA_ap, if_neg (by omega), bkA_12 _ _ _ _ 0 (by decide)]; exact hn') hn12 (show (tpA (bkA A r1 r0 n) r1 (nI i) p) r1 12 1 = _ by rw [tpA_ap, if_neg (by omega), bkA_12 _ _ _ _ 1 (by decide)]; exact hp') hp6 (show (tpA (bkA A r1 r0 n) r1 (nI i) p) r1 12 4 = _ by rw [tpA_ap, if_neg (by omega), bkA_12 _ _ _ _ 4 (by decide)]; exact hlw') (by omega) (by omega)) rfl (mrecv_of rfl o_123.symm) rfl (Nat.le_of_ble_eq_true rfl) (fun G' => ?_)
    have hq := gon_of (Lr := T t) (z := z) (p := p) hn12 hp6 (tps_eq (b := nI i) (p := p) (bkA_eq (A := A) (r := r1) (r2 := r0) (n := n) (by omega) hn12)) (show (tpA (bkA A r1 r0 n) r1 (nI i) p) r1 12 0 = _ by rw [tpA_ap, if_neg (by omega), bkA_12 _ _ _ _ 0 (by decide)]; exact hn') m
    rw [hr0] at hq
    have hne : ∀ r, ¬ r = r1 → hrs (tpA (bkA A r1 r0 n) r1 (nI i) p) r1 (T t) z n p m r = A0 r := fun r hr => (hrs_ne hr m).trans ((show tpA (bkA A r1 r0 n) r1 (nI i) p r = _ from funext fun a => funext fun b => by rw [tpA_ap, if_neg (fun q => hr q.1)]).trans ((bkA_ne hr).trans (hA r hr)))
    have hn1 : hrs (tpA (bkA A r1 r0 n) r1 (nI i) p) r1 (T t) z n p m r1 12 0 = nI n := (hrs_ap _ _ _ _ _ _ _ _ (by decide) _).trans (show (tpA (bkA A r1 r0 n) r1 (nI i) p) r1 12 0 = _ by rw [tpA_ap, if_neg (by omega), bkA_12 _ _ _ _ 0 (by decide)]; exact hn')
    generalize hrs (tpA (bkA A r1 r0 n) r1 (nI i) p) r1 (T t) z n p m = A2 at hq hne hn1 ⊢
    refine W_iload_n d_102_58 rfl ?_
    refine W_bipush d_102_59 (v := 10) (by decide) ?_
    refine W_icmp_ge (tgt := 74) d_102_61 (by decide) (fun h61 => ?_) (fun h61 => ?_)
    · refine W_aload_n d_102_74 rfl (by decide) ?_
      refine W_getf d_102_75 o_102 k_6_16 rfl rfl ?_
      show Wp _ _ _ _ (Value.ref (rb 1) :: _) _ _
      rw [show rb 1 = rb r1 from by rw [e1]]
      have hq1 : r1 < 3 := by omega
      refine W_callV d_102_78 o_102 (Or.inl k_6_208) (by omega) (x_73 (show r1 < 3 by omega) hn1 hn12 (by omega)) rfl (mrecv_of (h_road (by assumption)) o_73.symm) rfl (Nat.le_of_ble_eq_true rfl) ?_
      refine W_istore d_102_81 rfl ?_
      refine W_iload d_102_83 rfl ?_
      refine W_iload d_102_85 rfl ?_
      refine W_icmp_ge (tgt := 97) d_102_87 (by decide) (fun h87 => ?_) (fun h87 => ?_)
      · refine W_iinc (v := 1) d_102_97 rfl (by decide) rfl ?_
        rw [show ((nI i + 1 : Int32)) = nI (i + 1) from nI_add i 1]
        refine W_goto (tgt := 26) d_102_100 (by decide) ?_
        have h61b : ¬ gw < 10 := Int32.not_lt.mpr h61
        have h9 := fun a => ih (i + 1) A2 l G' a (by omega) hne
        rw [bst_f (f := (sdF (A0 r0) (T t) z n p m gw)) (c := (-1, 2147483647)) (i := i) (v := mom (A2 r1) n) (hq.mom_.trans (if_neg h61b).symm) (Int32.not_lt.mpr h87)] at h9
        exact h9 _
      · refine W_iload d_102_90 rfl ?_
        refine W_istore d_102_92 rfl ?_
        refine W_iload d_102_94 rfl ?_
        refine W_istore_n d_102_96 rfl ?_
        refine W_iinc (v := 1) d_102_97 rfl (by decide) rfl ?_
        rw [show ((nI i + 1 : Int32)) = nI (i + 1) from nI_add i 1]
        refine W_goto (tgt := 26) d_102_100 (by decide) ?_
        have h61b : ¬ gw < 10 := Int32.not_lt.mpr h61
        have h9 := fun a => ih (i + 1) A2 l G' a (by omega) hne
        rw [bst_t (f := (sdF (A0 r0) (T t) z n p m gw)) (c := (-1, 2147483647)) (i := i) (v := mom (A2 r1) n) (hq.mom_.trans (if_neg h61b).symm) (Int32.not_le.mp h87)] at h9
        exact h9 _
    · refine W_aload_n d_102_64 rfl (by decide) ?_
      refine W_getf d_102_65 o_102 k_6_16 rfl rfl ?_
      show Wp _ _ _ _ (Value.ref (rb 1) :: _) _ _
      rw [show rb 1 = rb r1 from by rw [e1]]
      have hq1 : r1 < 3 := by omega
      refine W_callV d_102_68 o_102 (Or.inl k_6_205) (by omega) (x_72 (show r1 < 3 by omega) hn1 hn12) rfl (mrecv_of (h_road (by assumption)) o_72.symm) rfl (Nat.le_of_ble_eq_true rfl) ?_
      refine W_goto (tgt := 81) d_102_71 (by decide) ?_
      refine W_istore d_102_81 rfl ?_
      refine W_iload d_102_83 rfl ?_
      refine W_iload d_102_85 rfl ?_
      refine W_icmp_ge (tgt := 97) d_102_87 (by decide) (fun h87 => ?_) (fun h87 => ?_)
      · refine W_iinc (v := 1) d_102_97 rfl (by decide) rfl ?_
        rw [show ((nI i + 1 : Int32)) = nI (i + 1) from nI_add i 1]
        refine W_goto (tgt := 26) d_102_100 (by decide) ?_
        have h61b : gw < 10 := Int32.not_le.mp h61
        have h9 := fun a => ih (i + 1) A2 l G' a (by omega) hne
        rw [bst_f (f := (sdF (A0 r0) (T t) z n p m gw)) (c := (-1, 2147483647)) (i := i) (v := sm8 (A2 r1) n) (hq.sm8.trans (if_pos h61b).symm) (Int32.not_lt.mpr h87)] at h9
        exact h9 _
      · refine W_iload d_102_90 rfl ?_
        refine W_istore d_102_92 rfl ?_
        refine W_iload d_102_94 rfl ?_
        refine W_istore_n d_102_96 rfl ?_
        refine W_iinc (v := 1) d_102_97 rfl (by decide) rfl ?_
        rw [show ((nI i + 1 : Int32)) = nI (i + 1) from nI_add i 1]
        refine W_goto (tgt := 26) d_102_100 (by decide) ?_
        have h61b : gw < 10 := Int32.not_le.mp h61
        have h9 := fun a => ih (i + 1) A2 l G' a (by omega) hne
        rw [bst_t (f := (sdF (A0 r0) (T t) z n p m gw)) (c := (-1, 2147483647)) (i := i) (v := sm8 (A2 r1) n) (hq.sm8.trans (if_pos h61b).symm) (Int32.not_le.mp h87)] at h9
        exact h9 _
theorem p_102 {d : Nat} {g : mG} {N : Nat} {A T K : Nat → tR} {B : tR} {E : Nat → Int32} {l : Int64} {G : tR} {Qm : Nat → mC} {r0 r1 : Nat} (e0 : r0 = 0) (e1 : r1 = 1) {z : Nat → Nat} {n p t : Nat} (hX : CX (A r0) T z n p t) {m : Nat} (hm : m ≤ 48) {gw : Int32} (hg : ((0 ≤ gw ∧ gw ≤ 11) ∧ i_mod gw 10 ≤ 1)) (hd : 9 ≤ d) : Wp d 102 0 (ment 102 [.ref 0, .int (nI m), .int gw]) [] (N, H3 g (cc A T K B E l G) Qm) (fun v M' => v = some (.int (pk (i_mod gw 10) (bst (-1, 2147483647) (sdF (A r0) (T t) z n p m gw) (2 ^ p)))) ∧ ∃ A' l' G', M' = (N, H3 g (cc A' T K B E l' G') Qm) ∧ ∀ r, ¬ r = r1 → A' r = A r) := by
  show Wp _ 102 0 [.ref 0, .int (nI m), .int gw, .null, .null, .null, .null] [] _ _
  refine W_iload_n d_102_0 rfl ?_
  refine W_callS d_102_1 o_102 k_6_167 (by omega) (x_130 (by omega)) rfl (Nat.le_of_ble_eq_true rfl) ?_
  refine W_if_eq (tgt := 14) d_102_4 (by decide) (fun h4 => absurd h4 (fun q => bI_f q ⟨nI_pos' (by omega), nI_le (a := m) (b := 48) hm (by decide)⟩)) (fun h4 => ?_)
  refine W_iload_n d_102_7 rfl ?_
  refine W_callS d_102_8 o_102 k_6_194 (by omega) (p_132 (by omega)) rfl (Nat.le_of_ble_eq_true rfl) ?_
  refine W_if_ne (tgt := 17) d_102_11 (by decide) (fun h11 => ?_) (fun h11 => absurd h11 (fun q => bI_f q hg))
  refine W_iconst d_102_17 (v := (-1)) (by decide) ?_
  refine W_istore_n d_102_18 rfl ?_
  refine W_ldcI d_102_19 o_102 k_6_197 (v := 2147483647) (by decide) ?_
  refine W_istore d_102_21 rfl ?_
  refine W_iconst d_102_23 (v := 0) (by decide) ?_
  refine W_istore d_102_24 rfl ?_
  refine lp_102 (A0 := A) e0 e1 hX hm hd (fun A2 l2 G2 a hA2 => ?_) (2 ^ p) 0 _ _ _ _ (by omega) (fun _ _ => rfl)
  refine W_iload_n d_102_103 rfl ?_
  refine W_bipush d_102_104 (v := 10) (by decide) ?_
  refine W_irem d_102_106 (by decide) ?_
  refine W_if_ne (tgt := 114) d_102_107 (by decide) (fun h107 => ?_) (fun h107 => ?_)
  · refine W_iload d_102_114 rfl ?_
    refine W_iret d_102_116 rt_102 rfl ?_
    exact ⟨congrArg (fun z => some (Value.int z)) (if_neg h107).symm, _, _, _, rfl, hA2⟩
  · refine W_iload_n d_102_110 rfl ?_
    refine W_goto (tgt := 116) d_102_111 (by decide) ?_
    refine W_iret d_102_116 rt_102 rfl ?_
    exact ⟨congrArg (fun z => some (Value.int z)) (if_pos h107).symm, _, _, _, rfl, hA2⟩
theorem p_102b {d : Nat} {g : mG} {N : Nat} {A T K : Nat → tR} {B : tR} {E : Nat → Int32} {l : Int64} {G : tR} {Qm : Nat → mC} {r0 r1 : Nat} (e0 : r0 = 0) (e1 : r1 = 1) {v w gw : Int32} (hb : ¬ ((0 ≤ v ∧ v ≤ 48) ∧ ((0 ≤ gw ∧ gw ≤ 11) ∧ i_mod gw 10 ≤ 1))) (hd : 3 ≤ d) : Ex d 102 [.ref 0, .int v, .int gw] (N, H3 g (cc A T K B E l G) Qm) (some (.int (-2))) (N, H3 g (cc A T K B E l G) Qm) := by
  refine Ex.of ?_
  show Wp _ 102 0 [.ref 0, .int v, .int gw, .null, .null, .null, .null] [] _ _
  refine W_iload_n d_102_0 rfl ?_
  refine W_callS d_102_1 o_102 k_6_167 (by omega) (x_130 (by omega)) rfl (Nat.le_of_ble_eq_true rfl) ?_
  refine W_if_eq (tgt := 14) d_102_4 (by decide) (fun h4 => ?_) (fun h4 => ?_)
  · refine W_bipush d_102_14 (v := (-2)) (by decide) ?_
    refine W_iret d_102_16 rt_102 rfl ?_
    exact ⟨rfl, rfl⟩
  · refine W_iload_n d_102_7 rfl ?_
    refine W_callS d_102_8 o_102 k_6_194 (by omega) (p_132 (by omega)) rfl (Nat.le_of_ble_eq_true rfl) ?_
    refine W_if_ne (tgt := 17) d_102_11 (by decide) (fun h11 => ?_) (fun h11 => ?_)
    · exact (hb ⟨bI_t h4, bI_t h11⟩).elim
    · refine W_bipush d_102_14 (v := (-2)) (by decide) ?_
      refine W_iret d_102_16 rt_102 rfl ?_
      exact ⟨rfl, rfl⟩
theorem p_103 {d : Nat} {g : mG} {N : Nat} {A T K : Nat → tR} {B : tR} {E : Nat → Int32} {l : Int64} {G : tR} {Qm : Nat → mC} {r0 r1 : Nat} (e0 : r0 = 0) (e1 : r1 = 1) {z : Nat → Nat} {n p t : Nat} (hX : CX (A r0) T z n p t) {m : Nat} (hm : m ≤ 48) {j : Nat} (hj : j < n) {w : Int32} (hw : 0 ≤ w ∧ w ≤ 1) (hd : 9 ≤ d) : Wp d 103 0 (ment 103 [.ref 0, .int (nI j), .int (nI m), .int w]) [] (N, H3 g (cc A T K B E l G) Qm) (fun v M' => v = some (.int (if w = 0 then (gon (A r0) (T t) z n p m) 7 j - (gon (chg (A r0) j 5 2) (T t) z n p m) 7 j else sm7 ((gon (chg (A r0) j 5 2) (T t) z n p m)) n - (gon (chg (A r0) j 5 2) (T t) z n p m) 7 j - (sm7 ((gon (A r0) (T t) z n p m)) n - (gon (A r0) (T t) z n p m) 7 j))) ∧ ∃ A' l' G', M' = (N, H3 g (cc A' T K B E l' G') Qm) ∧ ∀ r, ¬ r = r1 → A' r = A r) := by
  obtain ⟨hn, hn12, hp, hp6, hlw, ht, hL⟩ := hX
  have hj12 : j < 12 := by omega
  show Wp _ 103 0 [.ref 0, .int (nI j), .int (nI m), .int w, .null, .null, .null, .null] [] _ _
  refine W_aload_n d_103_0 rfl (by decide) ?_
  refine W_getf d_103_1 o_103 k_6_10 rfl rfl ?_
  show Wp _ _ _ _ (Value.ref (rb 0) :: _) _ _
  rw [show rb 0 = rb r0 from by rw [e0]]
  have hq0 : r0 < 3 := by omega
  refine W_iload_n d_103_4 rfl ?_
  refine W_callV d_103_5 o_103 (Or.inl k_6_103) (by omega) (x_56 (show r0 < 3 by omega)) rfl (mrecv_of (h_road (by assumption)) o_56.symm) rfl (Nat.le_of_ble_eq_true rfl) ?_
  refine W_if_ne (tgt := 14) d_103_8 (by decide) (fun h8 => ?_) (fun h8 => absurd h8 (fun q => bI_f q ⟨nI_pos' (by omega), by rw [hn]; exact nI_lt hj (by omega)⟩))
  refine W_iload_n d_103_14 rfl ?_
  refine W_callS d_103_15 o_103 k_6_167 (by omega) (x_130 (by omega)) rfl (Nat.le_of_ble_eq_true rfl) ?_
  refine W_if_eq (tgt := 30) d_103_18 (by decide) (fun h18 => absurd h18 (fun q => bI_f q ⟨nI_pos' (by omega), nI_le (a := m) (b := 48) hm (by decide)⟩)) (fun h18 => ?_)
  refine W_iload_n d_103_21 rfl ?_
  refine W_if_lt (tgt := 30) d_103_22 (by decide) (fun h22 => absurd h22 (Int32.not_lt.mpr hw.1)) (fun h22 => ?_)
  refine W_iload_n d_103_25 rfl ?_
  refine W_iconst d_103_26 (v := 1) (by decide) ?_
  refine W_icmp_le (tgt := 33) d_103_27 (by decide) (fun h27 => ?_) (fun h27 => absurd hw.2 h27)
  refine W_aload_n d_103_33 rfl (by decide) ?_
  refine W_callV d_103_34 o_103 (Or.inl k_6_176) (by omega) (x_122 e0 e1 hn hn12 (by omega)) rfl (mrecv_of rfl o_122.symm) rfl (Nat.le_of_ble_eq_true rfl) ?_
  refine W_aload_n d_103_37 rfl (by decide) ?_
  refine W_iload_n d_103_38 rfl ?_
  refine W_callVG d_103_39 o_103 (Or.inl k_6_179) (by omega) (x_123 e0 e1 ht hL ((bkA_12 _ _ _ _ 0 (by decide)).trans hn) hn12 ((bkA_12 _ _ _ _ 1 (by decide)).trans hp) hp6 ((bkA_12 _ _ _ _ 4 (by decide)).trans hlw) (by omega) (by omega)) rfl (mrecv_of rfl o_123.symm) rfl (Nat.le_of_ble_eq_true rfl) (fun G' => ?_)
  have hq := th_eq (Lr := T t) (z := z) (A := A) (r0 := r0) (r1 := r1) (p := p) (by omega) hn12 hp6 hn m
  have hne : ∀ r, ¬ r = r1 → hrs (bkA A r1 r0 n) r1 (T t) z n p m r = A r := fun r hr => th_ne hr
  have hn1 : hrs (bkA A r1 r0 n) r1 (T t) z n p m r1 12 0 = nI n := (hrs_ap _ _ _ _ _ _ _ _ (by decide) _).trans ((bkA_12 _ _ _ _ 0 (by decide)).trans hn)
  generalize hrs (bkA A r1 r0 n) r1 (T t) z n p m = A2 at hq hne hn1 ⊢
  refine W_aload_n d_103_42 rfl (by decide) ?_
  refine W_getf d_103_43 o_103 k_6_16 rfl rfl ?_
  show Wp _ _ _ _ (Value.ref (rb 1) :: _) _ _
  rw [show rb 1 = rb r1 from by rw [e1]]
  have hq1 : r1 < 3 := by omega
  refine W_getf d_103_46 o_103 k_6_121 (h_road (by assumption)) rfl ?_
  refine W_iload_n d_103_49 rfl ?_
  refine W_aald d_103_50 (h_owners (by assumption)) (vp_in_nI (by omega) (by decide)) (owa_v (by omega)) ?_
  refine W_getf d_103_51 o_103 k_6_185 (h_owner (by assumption) (by assumption)) rfl ?_
  refine W_istore d_103_54 rfl ?_
  refine W_aload_n d_103_56 rfl (by decide) ?_
  refine W_getf d_103_57 o_103 k_6_16 rfl rfl ?_
  show Wp _ _ _ _ (Value.ref (rb 1) :: _) _ _
  rw [show rb 1 = rb r1 from by rw [e1]]
  have hq1 : r1 < 3 := by omega
  refine W_callV d_103_60 o_103 (Or.inl k_6_164) (by omega) (x_71 (show r1 < 3 by omega) hn1 hn12) rfl (mrecv_of (h_road (by assumption)) o_71.symm) rfl (Nat.le_of_ble_eq_true rfl) ?_
  refine W_iload d_103_63 rfl ?_
  refine W_isub d_103_65 ?_
  have hqa := hq.lo (a := 7) (b := j) (by decide) hj
  have hqs := hq.sm7
  have hr0 := hne r0 (by omega)
  have hn' : A2 r0 12 0 = nI n := by rw [hr0]; exact hn
  have hp' : A2 r0 12 1 = nI p := by rw [hr0]; exact hp
  have hlw' : A2 r0 12 4 = nI t := by rw [hr0]; exact hlw
  have hne0 := hne
  refine W_istore d_103_66 rfl ?_
  refine W_aload_n d_103_68 rfl (by decide) ?_
  refine W_iload_n d_103_69 rfl ?_
  refine W_iconst d_103_70 (v := 5) (by decide) ?_
  refine W_iconst d_103_71 (v := 2) (by decide) ?_
  refine W_iload_n d_103_72 rfl ?_
  refine W_callVG d_103_73 o_103 (Or.inl k_6_198) (by omega) (x_124 e0 e1 ht hL hn' hn12 hp' hp6 hlw' (m := m) (by omega) (j := j) (by omega) (by omega)) rfl (mrecv_of rfl o_124.symm) rfl (Nat.le_of_ble_eq_true rfl) (fun G2 => ?_)
  clear hq hn1 hne
  have hq := tho_eq (Lr := T t) (z := z) (A := A2) (r0 := r0) (r1 := r1) (p := p) (by omega) hn12 hp6 hn' m (j := j) (w := 5) (v := 2)
  rw [hr0] at hq
  have hne : ∀ r, ¬ r = r1 → hrs (ochg (bkA A2 r1 r0 n) r1 j 5 2) r1 (T t) z n p m r = A r := fun r hr => (tho_ne hr).trans (hne0 r hr)
  have hn1 : hrs (ochg (bkA A2 r1 r0 n) r1 j 5 2) r1 (T t) z n p m r1 12 0 = nI n := (hrs_ap _ _ _ _ _ _ _ _ (by decide) _).trans ((ochg_12 _ _ _ _ _ _ _).trans ((bkA_12 _ _ _ _ 0 (by decide)).trans hn'))
  generalize hrs (ochg (bkA A2 r1 r0 n) r1 j 5 2) r1 (T t) z n p m = A3 at hq hne hn1 ⊢
  refine W_aload_n d_103_76 rfl (by decide) ?_
  refine W_getf d_103_77 o_103 k_6_16 rfl rfl ?_
  show Wp _ _ _ _ (Value.ref (rb 1) :: _) _ _
  rw [show rb 1 = rb r1 from by rw [e1]]
  have hq1 : r1 < 3 := by omega
  refine W_getf d_103_80 o_103 k_6_121 (h_road (by assumption)) rfl ?_
  refine W_iload_n d_103_83 rfl ?_
  refine W_aald d_103_84 (h_owners (by assumption)) (vp_in_nI (by omega) (by decide)) (owa_v (by omega)) ?_
  refine W_getf d_103_85 o_103 k_6_185 (h_owner (by assumption) (by assumption)) rfl ?_
  refine W_istore d_103_88 rfl ?_
  refine W_aload_n d_103_90 rfl (by decide) ?_
  refine W_getf d_103_91 o_103 k_6_16 rfl rfl ?_
  show Wp _ _ _ _ (Value.ref (rb 1) :: _) _ _
  rw [show rb 1 = rb r1 from by rw [e1]]
  have hq1 : r1 < 3 := by omega
  refine W_callV d_103_94 o_103 (Or.inl k_6_164) (by omega) (x_71 (show r1 < 3 by omega) hn1 hn12) rfl (mrecv_of (h_road (by assumption)) o_71.symm) rfl (Nat.le_of_ble_eq_true rfl) ?_
  refine W_iload d_103_97 rfl ?_
  refine W_isub d_103_99 ?_
  refine W_istore d_103_100 rfl ?_
  refine W_iload_n d_103_102 rfl ?_
  refine W_if_ne (tgt := 114) d_103_103 (by decide) (fun h103 => ?_) (fun h103 => ?_)
  · refine W_iload d_103_114 rfl ?_
    refine W_iload d_103_116 rfl ?_
    refine W_isub d_103_118 ?_
    refine W_iret d_103_119 rt_103 rfl ?_
    refine ⟨congrArg (fun z => some (Value.int z)) ?_, A3, _, _, rfl, hne⟩
    rw [if_neg h103, hq.lo (a := 7) (b := j) (by decide) hj, hq.sm7, ← hqa, ← hqs]
  · refine W_iload d_103_106 rfl ?_
    refine W_iload d_103_108 rfl ?_
    refine W_isub d_103_110 ?_
    refine W_goto (tgt := 119) d_103_111 (by decide) ?_
    refine W_iret d_103_119 rt_103 rfl ?_
    refine ⟨congrArg (fun z => some (Value.int z)) ?_, A3, _, _, rfl, hne⟩
    rw [if_pos h103, ← hqa, hq.lo (a := 7) (b := j) (by decide) hj]
theorem p_103a {d : Nat} {g : mG} {N : Nat} {A T K : Nat → tR} {B : tR} {E : Nat → Int32} {l : Int64} {G : tR} {Qm : Nat → mC} {r0 r1 : Nat} (e0 : r0 = 0) (e1 : r1 = 1) {v w gw : Int32} (hb : ¬ (0 ≤ v ∧ v < A r0 12 0)) (hd : 3 ≤ d) : Ex d 103 [.ref 0, .int v, .int w, .int gw] (N, H3 g (cc A T K B E l G) Qm) (some (.int (-1000005))) (N, H3 g (cc A T K B E l G) Qm) := by
  refine Ex.of ?_
  show Wp _ 103 0 [.ref 0, .int v, .int w, .int gw, .null, .null, .null, .null] [] _ _
  refine W_aload_n d_103_0 rfl (by decide) ?_
  refine W_getf d_103_1 o_103 k_6_10 rfl rfl ?_
  show Wp _ _ _ _ (Value.ref (rb 0) :: _) _ _
  rw [show rb 0 = rb r0 from by rw [e0]]
  have hq0 : r0 < 3 := by omega
  refine W_iload_n d_103_4 rfl ?_
  refine W_callV d_103_5 o_103 (Or.inl k_6_103) (by omega) (x_56 (show r0 < 3 by omega)) rfl (mrecv_of (h_road (by assumption)) o_56.symm) rfl (Nat.le_of_ble_eq_true rfl) ?_
  refine W_if_ne (tgt := 14) d_103_8 (by decide) (fun h8 => absurd (bI_ne.mpr hb) h8) (fun h8 => ?_)
  refine W_ldcI d_103_11 o_103 k_6_211 (v := (-1000005)) (by decide) ?_
  refine W_iret d_103_13 rt_103 rfl ?_
  exact ⟨rfl, rfl⟩
theorem p_103b {d : Nat} {g : mG} {N : Nat} {A T K : Nat → tR} {B : tR} {E : Nat → Int32} {l : Int64} {G : tR} {Qm : Nat → mC} {r0 r1 : Nat} (e0 : r0 = 0) (e1 : r1 = 1) {v w gw : Int32} (ha : 0 ≤ v ∧ v < A r0 12 0) (hb : ¬ ((0 ≤ w ∧ w ≤ 48) ∧ 0 ≤ gw ∧ gw ≤ 1)) (hd : 3 ≤ d) : Ex d 103 [.ref 0, .int v, .int w, .int gw] (N, H3 g (cc A T K B E l G) Qm) (some (.int (-1000007))) (N, H3 g (cc A T K B E l G) Qm) := by
  refine Ex.of ?_
  show Wp _ 103 0 [.ref 0, .int v, .int w, .int gw, .null, .null, .null, .null] [] _ _
  refine W_aload_n d_103_0 rfl (by decide) ?_
  refine W_getf d_103_1 o_103 k_6_10 rfl rfl ?_
  show Wp _ _ _ _ (Value.ref (rb 0) :: _) _ _
  rw [show rb 0 = rb r0 from by rw [e0]]
  have hq0 : r0 < 3 := by omega
  refine W_iload_n d_103_4 rfl ?_
  refine W_callV d_103_5 o_103 (Or.inl k_6_103) (by omega) (x_56 (show r0 < 3 by omega)) rfl (mrecv_of (h_road (by assumption)) o_56.symm) rfl (Nat.le_of_ble_eq_true rfl) ?_
  refine W_if_ne (tgt := 14) d_103_8 (by decide) (fun h8 => ?_) (fun h8 => absurd h8 (fun q => bI_f q ha))
  refine W_iload_n d_103_14 rfl ?_
  refine W_callS d_103_15 o_103 k_6_167 (by omega) (x_130 (by omega)) rfl (Nat.le_of_ble_eq_true rfl) ?_
  refine W_if_eq (tgt := 30) d_103_18 (by decide) (fun h18 => ?_) (fun h18 => ?_)
  · refine W_ldcI d_103_30 o_103 k_6_212 (v := (-1000007)) (by decide) ?_
    refine W_iret d_103_32 rt_103 rfl ?_
    exact ⟨rfl, rfl⟩
  · refine W_iload_n d_103_21 rfl ?_
    refine W_if_lt (tgt := 30) d_103_22 (by decide) (fun h22 => ?_) (fun h22 => ?_)
    · refine W_ldcI d_103_30 o_103 k_6_212 (v := (-1000007)) (by decide) ?_
      refine W_iret d_103_32 rt_103 rfl ?_
      exact ⟨rfl, rfl⟩
    · refine W_iload_n d_103_25 rfl ?_
      refine W_iconst d_103_26 (v := 1) (by decide) ?_
      refine W_icmp_le (tgt := 33) d_103_27 (by decide) (fun h27 => ?_) (fun h27 => ?_)
      · exact (hb ⟨bI_t h18, Int32.not_lt.mp h22, h27⟩).elim
      · refine W_ldcI d_103_30 o_103 k_6_212 (v := (-1000007)) (by decide) ?_
        refine W_iret d_103_32 rt_103 rfl ?_
        exact ⟨rfl, rfl⟩
theorem p_105 {d : Nat} {g : mG} {N : Nat} {A T K : Nat → tR} {B : tR} {E : Nat → Int32} {l : Int64} {G : tR} {Qm : Nat → mC} {r0 r1 : Nat} (e0 : r0 = 0) (e1 : r1 = 1) {z : Nat → Nat} {n p t : Nat} (hX : CX (A r0) T z n p t) {m : Nat} (hm : m ≤ 48) {j o : Nat} (hj : j < n) (ho : o < n) (hd : 8 ≤ d) : Wp d 105 0 (ment 105 [.ref 0, .int (nI j), .int (nI o), .int (nI m)]) [] (N, H3 g (cc A T K B E l G) Qm) (fun v M' => v = some (.int (gon (lik (A r0) j o) (T t) z n p m 7 j + gon (lik (A r0) j o) (T t) z n p m 7 o)) ∧ ∃ A' l' G', M' = (N, H3 g (cc A' T K B E l' G') Qm) ∧ ∀ r, ¬ r = r1 → A' r = A r) := by
  obtain ⟨hn, hn12, hp, hp6, hlw, ht, hL⟩ := hX
  have hj12 : j < 12 := by omega
  have ho12 : o < 12 := by omega
  show Wp _ 105 0 [.ref 0, .int (nI j), .int (nI o), .int (nI m), .null, .null] [] _ _
  refine W_aload_n d_105_0 rfl (by decide) ?_
  refine W_callV d_105_1 o_105 (Or.inl k_6_176) (by omega) (x_122 e0 e1 hn hn12 (by omega)) rfl (mrecv_of rfl o_122.symm) rfl (Nat.le_of_ble_eq_true rfl) ?_
  refine W_aload_n d_105_4 rfl (by decide) ?_
  refine W_getf d_105_5 o_105 k_6_16 rfl rfl ?_
  show Wp _ _ _ _ (Value.ref (rb 1) :: _) _ _
  rw [show rb 1 = rb r1 from by rw [e1]]
  have hq1 : r1 < 3 := by omega
  refine W_getf d_105_8 o_105 k_6_121 (h_road (by assumption)) rfl ?_
  refine W_iload_n d_105_11 rfl ?_
  refine W_aald d_105_12 (h_owners (by assumption)) (vp_in_nI (by omega) (by decide)) (owa_v (by omega)) ?_
  refine W_astore d_105_13 (ow_ne (by assumption) (by assumption)) rfl ?_
  refine W_aload_n d_105_15 rfl (by decide) ?_
  refine W_getf d_105_16 o_105 k_6_16 rfl rfl ?_
  show Wp _ _ _ _ (Value.ref (rb 1) :: _) _ _
  rw [show rb 1 = rb r1 from by rw [e1]]
  have hq1 : r1 < 3 := by omega
  refine W_getf d_105_19 o_105 k_6_121 (h_road (by assumption)) rfl ?_
  refine W_iload_n d_105_22 rfl ?_
  refine W_aald d_105_23 (h_owners (by assumption)) (vp_in_nI (by omega) (by decide)) (owa_v (by omega)) ?_
  refine W_astore d_105_24 (ow_ne (by assumption) (by assumption)) rfl ?_
  refine W_aload d_105_26 rfl (ow_ne (by assumption) (by assumption)) ?_
  refine W_aload d_105_28 rfl (ow_ne (by assumption) (by assumption)) ?_
  refine W_getf d_105_30 o_105 k_6_216 (h_owner (by assumption) (by assumption)) rfl ?_
  refine W_putf d_105_33 o_105 k_6_216 (h_owner (by assumption) (by assumption)) (Nat.le_of_ble_eq_true rfl) rfl (ms_ow0 (by assumption) (by assumption)) ?_
  refine W_aload d_105_36 rfl (ow_ne (by assumption) (by assumption)) ?_
  refine W_aload d_105_38 rfl (ow_ne (by assumption) (by assumption)) ?_
  refine W_getf d_105_40 o_105 k_6_219 (h_owner (by assumption) (by assumption)) rfl ?_
  refine W_putf d_105_43 o_105 k_6_219 (h_owner (by assumption) (by assumption)) (Nat.le_of_ble_eq_true rfl) rfl (ms_ow1 (by assumption) (by assumption)) ?_
  refine W_aload_n d_105_46 rfl (by decide) ?_
  refine W_iload_n d_105_47 rfl ?_
  refine W_callVG d_105_48 o_105 (Or.inl k_6_179) (by omega) (x_123 e0 e1 ht hL (show (u3 (u3 (bkA A r1 r0 n) r1 0 o (bkA A r1 r0 n r1 0 j)) r1 1 o (u3 (bkA A r1 r0 n) r1 0 o (bkA A r1 r0 n r1 0 j) r1 1 j)) r1 12 0 = _ by rw [u3_ap, if_neg (by omega), u3_ap, if_neg (by omega), bkA_12 _ _ _ _ 0 (by decide)]; exact hn) hn12 (show (u3 (u3 (bkA A r1 r0 n) r1 0 o (bkA A r1 r0 n r1 0 j)) r1 1 o (u3 (bkA A r1 r0 n) r1 0 o (bkA A r1 r0 n r1 0 j) r1 1 j)) r1 12 1 = _ by rw [u3_ap, if_neg (by omega), u3_ap, if_neg (by omega), bkA_12 _ _ _ _ 1 (by decide)]; exact hp) hp6 (show (u3 (u3 (bkA A r1 r0 n) r1 0 o (bkA A r1 r0 n r1 0 j)) r1 1 o (u3 (bkA A r1 r0 n) r1 0 o (bkA A r1 r0 n r1 0 j) r1 1 j)) r1 12 4 = _ by rw [u3_ap, if_neg (by omega), u3_ap, if_neg (by omega), bkA_12 _ _ _ _ 4 (by decide)]; exact hlw) (by omega) (by omega)) rfl (mrecv_of rfl o_123.symm) rfl (Nat.le_of_ble_eq_true rfl) (fun G' => ?_)
  have hq := gon_of (Lr := T t) (z := z) (p := p) hn12 hp6 (lik_eq (o := o) (bkA_eq (A := A) (r := r1) (r2 := r0) (n := n) (by omega) hn12) hj) (show (u3 (u3 (bkA A r1 r0 n) r1 0 o (bkA A r1 r0 n r1 0 j)) r1 1 o (u3 (bkA A r1 r0 n) r1 0 o (bkA A r1 r0 n r1 0 j) r1 1 j)) r1 12 0 = _ by rw [u3_ap, if_neg (by omega), u3_ap, if_neg (by omega), bkA_12 _ _ _ _ 0 (by decide)]; exact hn) m
  have hne : ∀ r, ¬ r = r1 → hrs (u3 (u3 (bkA A r1 r0 n) r1 0 o (bkA A r1 r0 n r1 0 j)) r1 1 o (u3 (bkA A r1 r0 n) r1 0 o (bkA A r1 r0 n r1 0 j) r1 1 j)) r1 (T t) z n p m r = A r := fun r hr => (hrs_ne hr m).trans ((u3_ne _ hr _ _ _).trans ((u3_ne _ hr _ _ _).trans (bkA_ne hr)))
  generalize hrs (u3 (u3 (bkA A r1 r0 n) r1 0 o (bkA A r1 r0 n r1 0 j)) r1 1 o (u3 (bkA A r1 r0 n) r1 0 o (bkA A r1 r0 n r1 0 j) r1 1 j)) r1 (T t) z n p m = A2 at hq hne ⊢
  refine W_aload d_105_51 rfl (ow_ne (by assumption) (by assumption)) ?_
  refine W_getf d_105_53 o_105 k_6_185 (h_owner (by assumption) (by assumption)) rfl ?_
  refine W_aload d_105_56 rfl (ow_ne (by assumption) (by assumption)) ?_
  refine W_getf d_105_58 o_105 k_6_185 (h_owner (by assumption) (by assumption)) rfl ?_
  refine W_iadd d_105_61 ?_
  refine W_iret d_105_62 rt_105 rfl ?_
  refine ⟨congrArg (fun z => some (Value.int z)) ?_, A2, _, _, rfl, hne⟩
  rw [hq.lo (a := 7) (b := j) (by decide) hj, hq.lo (a := 7) (b := o) (by decide) ho]
theorem lp_104 {d : Nat} {g : mG} {N : Nat} {A0 T K : Nat → tR} {B : tR} {E : Nat → Int32} {Qm : Nat → mC} {r0 r1 : Nat} (e0 : r0 = 0) (e1 : r1 = 1) {z : Nat → Nat} {n p t : Nat} (hX : CX (A0 r0) T z n p t) {m : Nat} (hm : m ≤ 48) {j : Nat} (hj : j < n) {w : Int32} (hd : 9 ≤ d) {Q : Option Value → mM → Prop} (kk : ∀ (A : Nat → tR) (l : Int64) (G : tR) (a : Value), (∀ r, ¬ r = r1 → A r = A0 r) → Wp d 104 110 [.ref 0, .int (nI j), .int (nI m), .int w, .int (bst (-1, 2147483647) (hlF (A0 r0) (T t) z n p m j) n).1, .int (bst (-1, 2147483647) (hlF (A0 r0) (T t) z n p m j) n).2, .int (nI n), a] [] (N, H3 g (cc A T K B E l G) Qm) Q) : ∀ (k i : Nat) (A : Nat → tR) (l : Int64) (G : tR) (a : Value), i + k = n → (∀ r, ¬ r = r1 → A r = A0 r) → Wp d 104 56 [.ref 0, .int (nI j), .int (nI m), .int w, .int (bst (-1, 2147483647) (hlF (A0 r0) (T t) z n p m j) i).1, .int (bst (-1, 2147483647) (hlF (A0 r0) (T t) z n p m j) i).2, .int (nI i), a] [] (N, H3 g (cc A T K B E l G) Qm) Q := by
  intro k
  induction k with
  | zero =>
    intro i A l G a hi hA
    have ei : i = n := by omega
    obtain ⟨hn, hn12, hp, hp6, hlw, ht, hL⟩ := hX
    have hr0 := hA r0 (by omega)
    have hn' : A r0 12 0 = nI n := by rw [hr0]; exact hn
    have hp' : A r0 12 1 = nI p := by rw [hr0]; exact hp
    have hlw' : A r0 12 4 = nI t := by rw [hr0]; exact hlw
    refine W_iload d_104_56 rfl ?_
    refine W_aload_n d_104_58 rfl (by decide) ?_
    refine W_getf d_104_59 o_104 k_6_10 rfl rfl ?_
    show Wp _ _ _ _ (Value.ref (rb 0) :: _) _ _
    rw [show rb 0 = rb r0 from by rw [e0]]
    have hq0 : r0 < 3 := by omega
    refine W_getf d_104_62 o_104 k_6_77 (h_road (by assumption)) rfl ?_
    rw [hn']
    refine W_icmp_ge (tgt := 110) d_104_65 (by decide) (fun h65 => ?_) (fun h65 => absurd (nI_le (a := n) (b := i) (by omega) (by omega)) h65)
    rw [ei]
    exact kk _ _ _ _ hA
  | succ k ih =>
    intro i A l G a hi hA
    obtain ⟨hn, hn12, hp, hp6, hlw, ht, hL⟩ := hX
    have hr0 := hA r0 (by omega)
    have hn' : A r0 12 0 = nI n := by rw [hr0]; exact hn
    have hp' : A r0 12 1 = nI p := by rw [hr0]; exact hp
    have hlw' : A r0 12 4 = nI t := by rw [hr0]; exact hlw
    refine W_iload d_104_56 rfl ?_
    refine W_aload_n d_104_58 rfl (by decide) ?_
    refine W_getf d_104_59 o_104 k_6_10 rfl rfl ?_
    show Wp _ _ _ _ (Value.ref (rb 0) :: _) _ _
    rw [show rb 0 = rb r0 from by rw [e0]]
    have hq0 : r0 < 3 := by omega
    refine W_getf d_104_62 o_104 k_6_77 (h_road (by assumption)) rfl ?_
    rw [hn']
    refine W_icmp_ge (tgt := 110) d_104_65 (by decide) (fun h65 => absurd h65 (nI_ge (a := i) (b := n) (by omega) (by omega))) (fun h65 => ?_)
    refine W_iload d_104_68 rfl ?_
    refine W_iload_n d_104_70 rfl ?_
    refine W_icmp_ne (tgt := 79) d_104_71 (by decide) (fun h71 => ?_) (fun h71 => ?_)
    · have q71 : ¬ i = j := mt (nI_eq (a := i) (b := j) (by omega) (by omega)).mpr h71
      refine W_aload_n d_104_79 rfl (by decide) ?_
      refine W_iload_n d_104_80 rfl ?_
      refine W_iload d_104_81 rfl ?_
      refine W_iload_n d_104_83 rfl ?_
      refine W_callVQ d_104_84 o_104 (Or.inl k_6_213) (by omega) (p_105 e0 e1 ⟨hn', hn12, hp', hp6, hlw', ht, hL⟩ hm hj (o := i) (by omega) (by omega)) rfl (mrecv_of rfl o_105.symm) rfl (Nat.le_of_ble_eq_true rfl) ?_
      rintro _ _ ⟨rfl, A2, l2, G2, rfl, hne0⟩
      have hne : ∀ r, ¬ r = r1 → A2 r = A0 r := fun r hr => (hne0 r hr).trans (hA r hr)
      rw [hr0]
      refine W_istore d_104_87 rfl ?_
      refine W_iload d_104_89 rfl ?_
      refine W_iload d_104_91 rfl ?_
      refine W_icmp_ge (tgt := 104) d_104_93 (by decide) (fun h93 => ?_) (fun h93 => ?_)
      · refine W_iinc (v := 1) d_104_104 rfl (by decide) rfl ?_
        rw [show ((nI i + 1 : Int32)) = nI (i + 1) from nI_add i 1]
        refine W_goto (tgt := 56) d_104_107 (by decide) ?_
        have h9 := fun a => ih (i + 1) A2 l2 G2 a (by omega) hne
        rw [bst_f (f := (hlF (A0 r0) (T t) z n p m j)) (c := (-1, 2147483647)) (i := i) (v := (gon (lik (A0 r0) j i) (T t) z n p m 7 j + gon (lik (A0 r0) j i) (T t) z n p m 7 i)) ((if_neg (fun e => q71 (by omega))).symm) (Int32.not_lt.mpr h93)] at h9
        exact h9 _
      · refine W_iload d_104_96 rfl ?_
        refine W_istore d_104_98 rfl ?_
        refine W_iload d_104_100 rfl ?_
        refine W_istore d_104_102 rfl ?_
        refine W_iinc (v := 1) d_104_104 rfl (by decide) rfl ?_
        rw [show ((nI i + 1 : Int32)) = nI (i + 1) from nI_add i 1]
        refine W_goto (tgt := 56) d_104_107 (by decide) ?_
        have h9 := fun a => ih (i + 1) A2 l2 G2 a (by omega) hne
        rw [bst_t (f := (hlF (A0 r0) (T t) z n p m j)) (c := (-1, 2147483647)) (i := i) (v := (gon (lik (A0 r0) j i) (T t) z n p m 7 j + gon (lik (A0 r0) j i) (T t) z n p m 7 i)) ((if_neg (fun e => q71 (by omega))).symm) (Int32.not_le.mp h93)] at h9
        exact h9 _
    · have q71 : i = j := (nI_eq (a := i) (b := j) (by omega) (by omega)).mp h71
      refine W_ldcI d_104_74 o_104 k_6_197 (v := 2147483647) (by decide) ?_
      refine W_goto (tgt := 87) d_104_76 (by decide) ?_
      refine W_istore d_104_87 rfl ?_
      refine W_iload d_104_89 rfl ?_
      refine W_iload d_104_91 rfl ?_
      refine W_icmp_ge (tgt := 104) d_104_93 (by decide) (fun h93 => ?_) (fun h93 => ?_)
      · refine W_iinc (v := 1) d_104_104 rfl (by decide) rfl ?_
        rw [show ((nI i + 1 : Int32)) = nI (i + 1) from nI_add i 1]
        refine W_goto (tgt := 56) d_104_107 (by decide) ?_
        have h9 := fun a => ih (i + 1) A l G a (by omega) hA
        rw [bst_f (f := (hlF (A0 r0) (T t) z n p m j)) (c := (-1, 2147483647)) (i := i) (v := 2147483647) ((if_pos (by omega)).symm) (Int32.not_lt.mpr h93)] at h9
        exact h9 _
      · refine W_iload d_104_96 rfl ?_
        refine W_istore d_104_98 rfl ?_
        refine W_iload d_104_100 rfl ?_
        refine W_istore d_104_102 rfl ?_
        refine W_iinc (v := 1) d_104_104 rfl (by decide) rfl ?_
        rw [show ((nI i + 1 : Int32)) = nI (i + 1) from nI_add i 1]
        refine W_goto (tgt := 56) d_104_107 (by decide) ?_
        have h9 := fun a => ih (i + 1) A l G a (by omega) hA
        rw [bst_t (f := (hlF (A0 r0) (T t) z n p m j)) (c := (-1, 2147483647)) (i := i) (v := 2147483647) ((if_pos (by omega)).symm) (Int32.not_le.mp h93)] at h9
        exact h9 _
theorem p_104 {d : Nat} {g : mG} {N : Nat} {A T K : Nat → tR} {B : tR} {E : Nat → Int32} {l : Int64} {G : tR} {Qm : Nat → mC} {r0 r1 : Nat} (e0 : r0 = 0) (e1 : r1 = 1) {z : Nat → Nat} {n p t : Nat} (hX : CX (A r0) T z n p t) {m : Nat} (hm : m ≤ 48) {j : Nat} (hj : j < n) (h2 : 2 ≤ n) {w : Int32} (hw : 0 ≤ w ∧ w ≤ 1) (hd : 9 ≤ d) : Wp d 104 0 (ment 104 [.ref 0, .int (nI j), .int (nI m), .int w]) [] (N, H3 g (cc A T K B E l G) Qm) (fun v M' => v = some (.int (pk w (bst (-1, 2147483647) (hlF (A r0) (T t) z n p m j) n))) ∧ ∃ A' l' G', M' = (N, H3 g (cc A' T K B E l' G') Qm) ∧ ∀ r, ¬ r = r1 → A' r = A r) := by
  obtain ⟨hn, hn12, hp, hp6, hlw, ht, hL⟩ := hX
  show Wp _ 104 0 [.ref 0, .int (nI j), .int (nI m), .int w, .null, .null, .null, .null] [] _ _
  refine W_aload_n d_104_0 rfl (by decide) ?_
  refine W_getf d_104_1 o_104 k_6_10 rfl rfl ?_
  show Wp _ _ _ _ (Value.ref (rb 0) :: _) _ _
  rw [show rb 0 = rb r0 from by rw [e0]]
  have hq0 : r0 < 3 := by omega
  refine W_iload_n d_104_4 rfl ?_
  refine W_callV d_104_5 o_104 (Or.inl k_6_103) (by omega) (x_56 (show r0 < 3 by omega)) rfl (mrecv_of (h_road (by assumption)) o_56.symm) rfl (Nat.le_of_ble_eq_true rfl) ?_
  refine W_if_ne (tgt := 14) d_104_8 (by decide) (fun h8 => ?_) (fun h8 => absurd h8 (fun q => bI_f q ⟨nI_pos' (by omega), by rw [hn]; exact nI_lt hj (by omega)⟩))
  refine W_iload_n d_104_14 rfl ?_
  refine W_callS d_104_15 o_104 k_6_167 (by omega) (x_130 (by omega)) rfl (Nat.le_of_ble_eq_true rfl) ?_
  refine W_if_eq (tgt := 30) d_104_18 (by decide) (fun h18 => absurd h18 (fun q => bI_f q ⟨nI_pos' (by omega), nI_le (a := m) (b := 48) hm (by decide)⟩)) (fun h18 => ?_)
  refine W_iload_n d_104_21 rfl ?_
  refine W_if_lt (tgt := 30) d_104_22 (by decide) (fun h22 => absurd h22 (Int32.not_lt.mpr hw.1)) (fun h22 => ?_)
  refine W_iload_n d_104_25 rfl ?_
  refine W_iconst d_104_26 (v := 1) (by decide) ?_
  refine W_icmp_le (tgt := 33) d_104_27 (by decide) (fun h27 => ?_) (fun h27 => absurd hw.2 h27)
  refine W_aload_n d_104_33 rfl (by decide) ?_
  refine W_getf d_104_34 o_104 k_6_10 rfl rfl ?_
  show Wp _ _ _ _ (Value.ref (rb 0) :: _) _ _
  rw [show rb 0 = rb r0 from by rw [e0]]
  have hq0 : r0 < 3 := by omega
  refine W_getf d_104_37 o_104 k_6_77 (h_road (by assumption)) rfl ?_
  rw [hn]
  refine W_iconst d_104_40 (v := 2) (by decide) ?_
  refine W_icmp_ge (tgt := 46) d_104_41 (by decide) (fun h41 => ?_) (fun h41 => absurd (nI_le (a := 2) (b := n) (by omega) (by omega)) h41)
  refine W_iconst d_104_46 (v := (-1)) (by decide) ?_
  refine W_istore d_104_47 rfl ?_
  refine W_ldcI d_104_49 o_104 k_6_197 (v := 2147483647) (by decide) ?_
  refine W_istore d_104_51 rfl ?_
  refine W_iconst d_104_53 (v := 0) (by decide) ?_
  refine W_istore d_104_54 rfl ?_
  refine lp_104 (A0 := A) e0 e1 ⟨hn, hn12, hp, hp6, hlw, ht, hL⟩ hm hj hd (fun A3 l3 G3 a hA3 => ?_) n 0 _ _ _ _ (by omega) (fun _ _ => rfl)
  refine W_iload_n d_104_110 rfl ?_
  refine W_if_ne (tgt := 119) d_104_111 (by decide) (fun h111 => ?_) (fun h111 => ?_)
  · refine W_iload d_104_119 rfl ?_
    refine W_iret d_104_121 rt_104 rfl ?_
    exact ⟨congrArg (fun z => some (Value.int z)) (if_neg h111).symm, _, _, _, rfl, hA3⟩
  · refine W_iload d_104_114 rfl ?_
    refine W_goto (tgt := 121) d_104_116 (by decide) ?_
    refine W_iret d_104_121 rt_104 rfl ?_
    exact ⟨congrArg (fun z => some (Value.int z)) (if_pos h111).symm, _, _, _, rfl, hA3⟩
theorem p_104n {d : Nat} {g : mG} {N : Nat} {A T K : Nat → tR} {B : tR} {E : Nat → Int32} {l : Int64} {G : tR} {Qm : Nat → mC} {r0 r1 : Nat} (e0 : r0 = 0) (e1 : r1 = 1) {z : Nat → Nat} {n p t : Nat} (hX : CX (A r0) T z n p t) {m : Nat} (hm : m ≤ 48) {j : Nat} (hj : j < n) (h2 : ¬ 2 ≤ n) {w : Int32} (hw : 0 ≤ w ∧ w ≤ 1) (hd : 3 ≤ d) : Ex d 104 [.ref 0, .int (nI j), .int (nI m), .int w] (N, H3 g (cc A T K B E l G) Qm) (some (.int (-1))) (N, H3 g (cc A T K B E l G) Qm) := by
  obtain ⟨hn, hn12, hp, hp6, hlw, ht, hL⟩ := hX
  refine Ex.of ?_
  show Wp _ 104 0 [.ref 0, .int (nI j), .int (nI m), .int w, .null, .null, .null, .null] [] _ _
  refine W_aload_n d_104_0 rfl (by decide) ?_
  refine W_getf d_104_1 o_104 k_6_10 rfl rfl ?_
  show Wp _ _ _ _ (Value.ref (rb 0) :: _) _ _
  rw [show rb 0 = rb r0 from by rw [e0]]
  have hq0 : r0 < 3 := by omega
  refine W_iload_n d_104_4 rfl ?_
  refine W_callV d_104_5 o_104 (Or.inl k_6_103) (by omega) (x_56 (show r0 < 3 by omega)) rfl (mrecv_of (h_road (by assumption)) o_56.symm) rfl (Nat.le_of_ble_eq_true rfl) ?_
  refine W_if_ne (tgt := 14) d_104_8 (by decide) (fun h8 => ?_) (fun h8 => absurd h8 (fun q => bI_f q ⟨nI_pos' (by omega), by rw [hn]; exact nI_lt hj (by omega)⟩))
  refine W_iload_n d_104_14 rfl ?_
  refine W_callS d_104_15 o_104 k_6_167 (by omega) (x_130 (by omega)) rfl (Nat.le_of_ble_eq_true rfl) ?_
  refine W_if_eq (tgt := 30) d_104_18 (by decide) (fun h18 => absurd h18 (fun q => bI_f q ⟨nI_pos' (by omega), nI_le (a := m) (b := 48) hm (by decide)⟩)) (fun h18 => ?_)
  refine W_iload_n d_104_21 rfl ?_
  refine W_if_lt (tgt := 30) d_104_22 (by decide) (fun h22 => absurd h22 (Int32.not_lt.mpr hw.1)) (fun h22 => ?_)
  refine W_iload_n d_104_25 rfl ?_
  refine W_iconst d_104_26 (v := 1) (by decide) ?_
  refine W_icmp_le (tgt := 33) d_104_27 (by decide) (fun h27 => ?_) (fun h27 => absurd hw.2 h27)
  refine W_aload_n d_104_33 rfl (by decide) ?_
  refine W_getf d_104_34 o_104 k_6_10 rfl rfl ?_
  show Wp _ _ _ _ (Value.ref (rb 0) :: _) _ _
  rw [show rb 0 = rb r0 from by rw [e0]]
  have hq0 : r0 < 3 := by omega
  refine W_getf d_104_37 o_104 k_6_77 (h_road (by assumption)) rfl ?_
  rw [hn]
  refine W_iconst d_104_40 (v := 2) (by decide) ?_
  refine W_icmp_ge (tgt := 46) d_104_41 (by decide) (fun h41 => absurd h41 (nI_ge (a := n) (b := 2) (by omega) (by omega))) (fun h41 => ?_)
  refine W_iconst d_104_44 (v := (-1)) (by decide) ?_
  refine W_iret d_104_45 rt_104 rfl ?_
  exact ⟨rfl, rfl⟩
theorem p_104a {d : Nat} {g : mG} {N : Nat} {A T K : Nat → tR} {B : tR} {E : Nat → Int32} {l : Int64} {G : tR} {Qm : Nat → mC} {r0 r1 : Nat} (e0 : r0 = 0) (e1 : r1 = 1) {v w gw : Int32} (hb : ¬ (0 ≤ v ∧ v < A r0 12 0)) (hd : 3 ≤ d) : Ex d 104 [.ref 0, .int v, .int w, .int gw] (N, H3 g (cc A T K B E l G) Qm) (some (.int (-5))) (N, H3 g (cc A T K B E l G) Qm) := by
  refine Ex.of ?_
  show Wp _ 104 0 [.ref 0, .int v, .int w, .int gw, .null, .null, .null, .null] [] _ _
  refine W_aload_n d_104_0 rfl (by decide) ?_
  refine W_getf d_104_1 o_104 k_6_10 rfl rfl ?_
  show Wp _ _ _ _ (Value.ref (rb 0) :: _) _ _
  rw [show rb 0 = rb r0 from by rw [e0]]
  have hq0 : r0 < 3 := by omega
  refine W_iload_n d_104_4 rfl ?_
  refine W_callV d_104_5 o_104 (Or.inl k_6_103) (by omega) (x_56 (show r0 < 3 by omega)) rfl (mrecv_of (h_road (by assumption)) o_56.symm) rfl (Nat.le_of_ble_eq_true rfl) ?_
  refine W_if_ne (tgt := 14) d_104_8 (by decide) (fun h8 => absurd (bI_ne.mpr hb) h8) (fun h8 => ?_)
  refine W_bipush d_104_11 (v := (-5)) (by decide) ?_
  refine W_iret d_104_13 rt_104 rfl ?_
  exact ⟨rfl, rfl⟩
theorem p_104b {d : Nat} {g : mG} {N : Nat} {A T K : Nat → tR} {B : tR} {E : Nat → Int32} {l : Int64} {G : tR} {Qm : Nat → mC} {r0 r1 : Nat} (e0 : r0 = 0) (e1 : r1 = 1) {v w gw : Int32} (ha : 0 ≤ v ∧ v < A r0 12 0) (hb : ¬ ((0 ≤ w ∧ w ≤ 48) ∧ 0 ≤ gw ∧ gw ≤ 1)) (hd : 3 ≤ d) : Ex d 104 [.ref 0, .int v, .int w, .int gw] (N, H3 g (cc A T K B E l G) Qm) (some (.int (-7))) (N, H3 g (cc A T K B E l G) Qm) := by
  refine Ex.of ?_
  show Wp _ 104 0 [.ref 0, .int v, .int w, .int gw, .null, .null, .null, .null] [] _ _
  refine W_aload_n d_104_0 rfl (by decide) ?_
  refine W_getf d_104_1 o_104 k_6_10 rfl rfl ?_
  show Wp _ _ _ _ (Value.ref (rb 0) :: _) _ _
  rw [show rb 0 = rb r0 from by rw [e0]]
  have hq0 : r0 < 3 := by omega
  refine W_iload_n d_104_4 rfl ?_
  refine W_callV d_104_5 o_104 (Or.inl k_6_103) (by omega) (x_56 (show r0 < 3 by omega)) rfl (mrecv_of (h_road (by assumption)) o_56.symm) rfl (Nat.le_of_ble_eq_true rfl) ?_
  refine W_if_ne (tgt := 14) d_104_8 (by decide) (fun h8 => ?_) (fun h8 => absurd h8 (fun q => bI_f q ha))
  refine W_iload_n d_104_14 rfl ?_
  refine W_callS d_104_15 o_104 k_6_167 (by omega) (x_130 (by omega)) rfl (Nat.le_of_ble_eq_true rfl) ?_
  refine W_if_eq (tgt := 30) d_104_18 (by decide) (fun h18 => ?_) (fun h18 => ?_)
  · refine W_bipush d_104_30 (v := (-7)) (by decide) ?_
    refine W_iret d_104_32 rt_104 rfl ?_
    exact ⟨rfl, rfl⟩
  · refine W_iload_n d_104_21 rfl ?_
    refine W_if_lt (tgt := 30) d_104_22 (by decide) (fun h22 => ?_) (fun h22 => ?_)
    · refine W_bipush d_104_30 (v := (-7)) (by decide) ?_
      refine W_iret d_104_32 rt_104 rfl ?_
      exact ⟨rfl, rfl⟩
    · refine W_iload_n d_104_25 rfl ?_
      refine W_iconst d_104_26 (v := 1) (by decide) ?_
      refine W_icmp_le (tgt := 33) d_104_27 (by decide) (fun h27 => ?_) (fun h27 => ?_)
      · exact (hb ⟨bI_t h18, Int32.not_lt.mp h22, h27⟩).elim
      · refine W_bipush d_104_30 (v := (-7)) (by decide) ?_
        refine W_iret d_104_32 rt_104 rfl ?_
        exact ⟨rfl, rfl⟩
