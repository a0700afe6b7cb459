/-! WHAT IS ASKED OF HOURS: run, when, dig, blade (wip/whole/gen32.py) -/
/-- the class at rest -/
def CX (R : tR) (T : Nat → tR) (z : Nat → Nat) (n p t : Nat) : Prop := R 12 0 = nI n ∧ n ≤ 12 ∧ R 12 1 = nI p ∧ p ≤ 6 ∧ R 12 4 = nI t ∧ t < 6 ∧ Lw (T t) z
section
variable {A : Nat → tR} {r0 r1 n p : Nat} {Lr : tR} {z : Nat → Nat}
theorem th_eq (h01 : ¬ r0 = r1) (hn12 : n ≤ 12) (hp6 : p ≤ 6) (hn : A r0 12 0 = nI n) (m : Nat) : EQ n (hrs (bkA A r1 r0 n) r1 Lr z n p m r1) (gon (A r0) Lr z n p m) :=
  hrs_eq (A' := fun _ => zt (A r0)) (r' := 0) hn12 hp6 (bkA_eq h01 hn12) ((bkA_12 _ _ _ _ _ (by decide)).trans hn) m
theorem th_ne {m r2 : Nat} (hr : ¬ r2 = r1) : hrs (bkA A r1 r0 n) r1 Lr z n p m r2 = A r2 := (hrs_ne hr m).trans (bkA_ne hr)
theorem tho_eq (h01 : ¬ r0 = r1) (hn12 : n ≤ 12) (hp6 : p ≤ 6) (hn : A r0 12 0 = nI n) (m : Nat) {j : Nat} {w v : Int32} : EQ n (hrs (ochg (bkA A r1 r0 n) r1 j w v) r1 Lr z n p m r1) (gon (chg (A r0) j w v) Lr z n p m) :=
  hrs_eq (A' := fun _ => zt (chg (A r0) j w v)) (r' := 0) hn12 hp6 (ochg_eq (bkA_eq h01 hn12)) ((ochg_12 _ _ _ _ _ _ _).trans ((bkA_12 _ _ _ _ _ (by decide)).trans hn)) m
theorem tho_ne {m r2 j : Nat} {w v : Int32} (hr : ¬ r2 = r1) : hrs (ochg (bkA A r1 r0 n) r1 j w v) r1 Lr z n p m r2 = A r2 := (hrs_ne hr m).trans ((ochg_ne hr).trans (bkA_ne hr))
theorem thw_eq (h01 : ¬ r0 = r1) (hn12 : n ≤ 12) (hp6 : p ≤ 6) (hn : A r0 12 0 = nI n) (m : Nat) {l : Int64} {most : Int32} : EQ n ((wns (bkA A r1 r0 n) r1 l Lr z n p most m).1 r1) (win (A r0) l Lr z n p most m) :=
  (wns_eq (A' := fun _ => zt (A r0)) (r' := 0) hn12 hp6 (bkA_eq h01 hn12) ((bkA_12 _ _ _ _ _ (by decide)).trans hn) m).1
theorem thw_ne {m r2 : Nat} {l : Int64} {most : Int32} (hr : ¬ r2 = r1) : (wns (bkA A r1 r0 n) r1 l Lr z n p most m).1 r2 = A r2 := (wns_ne hr m).trans (bkA_ne hr)
end
/-- the best so far: the first of the least -/
def bst (c : Int32 × Int32) (f : Nat → Int32) : Nat → Int32 × Int32
  | 0 => c
  | i + 1 => if f i < (bst c f i).2 then (nI i, f i) else bst c f i
theorem bst_t {c : Int32 × Int32} {f : Nat → Int32} {i : Nat} {v : Int32} (hv : v = f i) (h : v < (bst c f i).2) : bst c f (i + 1) = (nI i, v) := by rw [bst, ← hv, if_pos h]
theorem bst_f {c : Int32 × Int32} {f : Nat → Int32} {i : Nat} {v : Int32} (hv : v = f i) (h : ¬ v < (bst c f i).2) : bst c f (i + 1) = bst c f i := by rw [bst, ← hv, if_neg h]
def pk (w : Int32) (c : Int32 × Int32) : Int32 := if w = 0 then c.1 else c.2
def rnV (X : tR) (n : Nat) (w : Int32) : Int32 := if 0 ≤ w ∧ w ≤ 4 then ans_ X n w else if w < 30 then X 7 (w - 10).toNatClampNeg else if w < 50 then X 8 (w - 30).toNatClampNeg else X 2 (w - 50).toNatClampNeg
def whF (R Lr : tR) (z : Nat → Nat) (n p m j : Nat) (gw : Int32) (h : Nat) : Int32 := if gw < 10 then gon (chg R j 3 (nI h)) Lr z n p m 7 j else gon (chg R j 3 (nI h)) Lr z n p m 8 j
def fst1 (f : Nat → Int32) (most : Int32) : Nat → Nat → Int32
  | 0, _ => -1
  | k + 1, i => if f i ≤ most then nI i else fst1 f most k (i + 1)
theorem isgoal_iff {v : Int32} : (i_mod v 10 ≤ 1) ↔ (i_mod v 10 < 2) := by
  simp only [Int32.le_iff_toInt_le, Int32.lt_iff_toInt_lt, show (1 : Int32).toInt = 1 from rfl, show (2 : Int32).toInt = 2 from rfl]
  omega
theorem p_132 {d : Nat} {M : mM} {v : Int32} (hd : 1 ≤ d) : Ex d 132 [.int v] M (some (.int (bI (decide ((0 ≤ v ∧ v ≤ 11) ∧ i_mod v 10 ≤ 1))))) M := by
  refine Ex.of ?_
  show Wp _ 132 0 [.int v] [] _ _
  refine W_iload_n d_132_0 rfl ?_
  refine W_bipush d_132_1 (v := 11) (by decide) ?_
  refine W_callS d_132_3 o_132 k_6_95 (by omega) x_126 rfl (Nat.le_of_ble_eq_true rfl) ?_
  refine W_if_eq (tgt := 21) d_132_6 (by decide) (fun h6 => ?_) (fun h6 => ?_)
  · refine W_iconst d_132_21 (v := 0) (by decide) ?_
    refine W_iret d_132_22 rt_132 rfl ?_
    exact ⟨congrArg (fun z => some (Value.int z)) (bI_0 (fun q => bI_f h6 q.1)), rfl⟩
  · refine W_iload_n d_132_9 rfl ?_
    refine W_bipush d_132_10 (v := 10) (by decide) ?_
    refine W_irem d_132_12 (by decide) ?_
    refine W_iconst d_132_13 (v := 1) (by decide) ?_
    refine W_icmp_gt (tgt := 21) d_132_14 (by decide) (fun h14 => ?_) (fun h14 => ?_)
    · refine W_iconst d_132_21 (v := 0) (by decide) ?_
      refine W_iret d_132_22 rt_132 rfl ?_
      exact ⟨congrArg (fun z => some (Value.int z)) (bI_0 (fun q => absurd q.2 (Int32.not_le.mpr h14))), rfl⟩
    · refine W_iconst d_132_17 (v := 1) (by decide) ?_
      refine W_goto (tgt := 22) d_132_18 (by decide) ?_
      refine W_iret d_132_22 rt_132 rfl ?_
      exact ⟨congrArg (fun z => some (Value.int z)) (bI_1 ⟨bI_t h6, Int32.not_lt.mp h14⟩), rfl⟩
theorem p_97 {d : Nat} {g : mG} {N : Nat} {A T K : Nat → tR} {B : tR} {E : Nat → Int32} {l : Int64} {G : tR} {Qm : Nat → mC} {r0 r1 : Nat} (e0 : r0 = 0) (e1 : r1 = 1) {z : Nat → Nat} {n p t : Nat} (hX : CX (A r0) T z n p t) {m : Nat} (hm : m ≤ 48) {w : Int32} (hw : 0 ≤ w ∧ w ≤ 4) (hd : 9 ≤ d) : Wp d 97 0 (ment 97 [.ref 0, .int (nI m), .int w]) [] (N, H3 g (cc A T K B E l G) Qm) (fun v M' => v = some (.int (ans_ (gon (A r0) (T t) z n p m) n w)) ∧ ∃ A' l' G', M' = (N, H3 g (cc A' T K B E l' G') Qm) ∧ ∀ r, ¬ r = r1 → A' r = A r) := by
  obtain ⟨hn, hn12, hp, hp6, hlw, ht, hL⟩ := hX
  show Wp _ 97 0 [.ref 0, .int (nI m), .int w, .null] [] _ _
  refine W_iload_n d_97_0 rfl ?_
  refine W_callS d_97_1 o_97 k_6_167 (by omega) (x_130 (by omega)) rfl (Nat.le_of_ble_eq_true rfl) ?_
  refine W_if_ne (tgt := 10) d_97_4 (by decide) (fun h4 => ?_) (fun h4 => absurd h4 (fun q => bI_f q ⟨nI_pos' (by omega), nI_le (a := m) (b := 48) hm (by decide)⟩))
  refine W_iload_n d_97_10 rfl ?_
  refine W_callS d_97_11 o_97 k_6_170 (by omega) (x_131 (by omega)) rfl (Nat.le_of_ble_eq_true rfl) ?_
  refine W_if_ne (tgt := 34) d_97_14 (by decide) (fun h14 => ?_) (fun h14 => absurd h14 (fun q => bI_f q hw))
  refine W_aload_n d_97_34 rfl (by decide) ?_
  refine W_callV d_97_35 o_97 (Or.inl k_6_176) (by omega) (x_122 e0 e1 hn hn12 (by omega)) rfl (mrecv_of rfl o_122.symm) rfl (Nat.le_of_ble_eq_true rfl) ?_
  refine W_aload_n d_97_38 rfl (by decide) ?_
  refine W_iload_n d_97_39 rfl ?_
  refine W_callVG d_97_40 o_97 (Or.inl k_6_179) (by omega) (x_123 e0 e1 ht hL ((bkA_12 _ _ _ _ 0 (by decide)).trans hn) hn12 ((bkA_12 _ _ _ _ 1 (by decide)).trans hp) hp6 ((bkA_12 _ _ _ _ 4 (by decide)).trans hlw) (by omega) (by omega)) rfl (mrecv_of rfl o_123.symm) rfl (Nat.le_of_ble_eq_true rfl) (fun G' => ?_)
  have hq := th_eq (Lr := T t) (z := z) (A := A) (r0 := r0) (r1 := r1) (p := p) (by omega) hn12 hp6 hn m
  have hne : ∀ r, ¬ r = r1 → hrs (bkA A r1 r0 n) r1 (T t) z n p m r = A r := fun r hr => th_ne hr
  have hn1 : hrs (bkA A r1 r0 n) r1 (T t) z n p m r1 12 0 = nI n := (hrs_ap _ _ _ _ _ _ _ _ (by decide) _).trans ((bkA_12 _ _ _ _ 0 (by decide)).trans hn)
  generalize hrs (bkA A r1 r0 n) r1 (T t) z n p m = A2 at hq hne hn1 ⊢
  refine W_iload_n d_97_43 rfl ?_
  refine W_callS d_97_44 o_97 k_6_170 (by omega) (x_131 (by omega)) rfl (Nat.le_of_ble_eq_true rfl) ?_
  refine W_if_eq (tgt := 59) d_97_47 (by decide) (fun h47 => absurd h47 (fun q => bI_f q hw)) (fun h47 => ?_)
  refine W_aload_n d_97_50 rfl (by decide) ?_
  refine W_getf d_97_51 o_97 k_6_16 rfl rfl ?_
  show Wp _ _ _ _ (Value.ref (rb 1) :: _) _ _
  rw [show rb 1 = rb r1 from by rw [e1]]
  have hq1 : r1 < 3 := by omega
  refine W_iload_n d_97_54 rfl ?_
  refine W_callV d_97_55 o_97 (Or.inl k_6_182) (by omega) (x_70 (show r1 < 3 by omega) hn1 hn12 (by omega)) rfl (mrecv_of (h_road (by assumption)) o_70.symm) rfl (Nat.le_of_ble_eq_true rfl) ?_
  refine W_iret d_97_58 rt_97 rfl ?_
  exact ⟨congrArg (fun z => some (Value.int z)) (hq.ans w), A2, _, _, rfl, hne⟩
theorem i_mod20 {j k : Nat} (hj : j < 12) (hk : k < 3) : nI (20 * k + j) - nI (20 * k + j) / 20 * 20 = nI j := by
  rw [show (nI (20 * k + j) - nI (20 * k + j) / 20 * 20 : Int32) = nI ((20 * k + j) % 20) from pk_rem (a := 20 * k + j) (d := 20) (by omega) (by decide) (by decide)]
  rw [show (20 * k + j) % 20 = j by omega]
theorem p_98 {d : Nat} {M : mM} {j k : Nat} (hj : j < 12) (hk : k < 3) : Ex d 98 [.int (nI (10 + 20 * k + j))] M (some (.int (nI j))) M := by
  refine Ex.of ?_
  show Wp _ 98 0 [.int (nI (10 + 20 * k + j))] [] _ _
  refine W_iload_n d_98_0 rfl ?_
  refine W_bipush d_98_1 (v := 10) (by decide) ?_
  refine W_icmp_lt (tgt := 12) d_98_3 (by decide) (fun h3 => absurd h3 (nI_nlt (a := 10 + 20 * k + j) (b := 10) (by omega) (by omega))) (fun h3 => ?_)
  refine W_iload_n d_98_6 rfl ?_
  refine W_bipush d_98_7 (v := 70) (by decide) ?_
  refine W_icmp_lt (tgt := 16) d_98_9 (by decide) (fun h9 => ?_) (fun h9 => absurd (nI_lt (a := 10 + 20 * k + j) (b := 70) (by omega) (by omega)) h9)
  refine W_iload_n d_98_16 rfl ?_
  refine W_bipush d_98_17 (v := 10) (by decide) ?_
  refine W_isub d_98_19 ?_
  rw [show (nI (10 + 20 * k + j) - 10 : Int32) = nI (20 * k + j) from (pk_sub (a := 10 + 20 * k + j) (b := 10) (by omega)).trans (congrArg nI (by omega))]
  refine W_bipush d_98_20 (v := 20) (by decide) ?_
  refine W_irem d_98_22 (by decide) ?_
  rw [i_mod20 hj hk]
  refine W_iret d_98_23 rt_98 rfl ?_
  exact ⟨rfl, rfl⟩
theorem p_98n {d : Nat} {M : mM} {v : Int32} (hn : ¬ (10 ≤ v ∧ v < 70)) : Ex d 98 [.int v] M (some (.int (-1))) M := by
  refine Ex.of ?_
  show Wp _ 98 0 [.int v] [] _ _
  refine W_iload_n d_98_0 rfl ?_
  refine W_bipush d_98_1 (v := 10) (by decide) ?_
  refine W_icmp_lt (tgt := 12) d_98_3 (by decide) (fun h3 => ?_) (fun h3 => ?_)
  · refine W_iconst d_98_12 (v := (-1)) (by decide) ?_
    refine W_goto (tgt := 23) d_98_13 (by decide) ?_
    refine W_iret d_98_23 rt_98 rfl ?_
    exact ⟨rfl, rfl⟩
  · refine W_iload_n d_98_6 rfl ?_
    refine W_bipush d_98_7 (v := 70) (by decide) ?_
    refine W_icmp_lt (tgt := 16) d_98_9 (by decide) (fun h9 => ?_) (fun h9 => ?_)
    · exact (hn ⟨Int32.not_lt.mp h3, h9⟩).elim
    · refine W_iconst d_98_12 (v := (-1)) (by decide) ?_
      refine W_goto (tgt := 23) d_98_13 (by decide) ?_
      refine W_iret d_98_23 rt_98 rfl ?_
      exact ⟨rfl, rfl⟩
theorem p_97o {d : Nat} {g : mG} {N : Nat} {A T K : Nat → tR} {B : tR} {E : Nat → Int32} {l : Int64} {G : tR} {Qm : Nat → mC} {r0 r1 : Nat} (e0 : r0 = 0) (e1 : r1 = 1) {z : Nat → Nat} {n p t : Nat} (hX : CX (A r0) T z n p t) {m : Nat} (hm : m ≤ 48) {j k : Nat} (hj : j < n) (hk : k < 3) (hd : 9 ≤ d) : Wp d 97 0 (ment 97 [.ref 0, .int (nI m), .int (nI (10 + 20 * k + j))]) [] (N, H3 g (cc A T K B E l G) Qm) (fun v M' => v = some (.int (if k = 0 then gon (A r0) (T t) z n p m 7 j else if k = 1 then gon (A r0) (T t) z n p m 8 j else gon (A r0) (T t) z n p m 2 j)) ∧ ∃ A' l' G', M' = (N, H3 g (cc A' T K B E l' G') Qm) ∧ ∀ r, ¬ r = r1 → A' r = A r) := by
  obtain ⟨hn, hn12, hp, hp6, hlw, ht, hL⟩ := hX
  show Wp _ 97 0 [.ref 0, .int (nI m), .int (nI (10 + 20 * k + j)), .null] [] _ _
  refine W_iload_n d_97_0 rfl ?_
  refine W_callS d_97_1 o_97 k_6_167 (by omega) (x_130 (by omega)) rfl (Nat.le_of_ble_eq_true rfl) ?_
  refine W_if_ne (tgt := 10) d_97_4 (by decide) (fun h4 => ?_) (fun h4 => absurd h4 (fun q => bI_f q ⟨nI_pos' (by omega), nI_le (a := m) (b := 48) hm (by decide)⟩))
  refine W_iload_n d_97_10 rfl ?_
  refine W_callS d_97_11 o_97 k_6_170 (by omega) (x_131 (by omega)) rfl (Nat.le_of_ble_eq_true rfl) ?_
  refine W_if_ne (tgt := 34) d_97_14 (by decide) (fun h14 => absurd (bI_ne.mpr (fun q => absurd q.2 (nI_ge (a := 4) (b := 10 + 20 * k + j) (by omega) (by omega)))) h14) (fun h14 => ?_)
  refine W_aload_n d_97_17 rfl (by decide) ?_
  refine W_getf d_97_18 o_97 k_6_10 rfl rfl ?_
  show Wp _ _ _ _ (Value.ref (rb 0) :: _) _ _
  rw [show rb 0 = rb r0 from by rw [e0]]
  have hq0 : r0 < 3 := by omega
  refine W_iload_n d_97_21 rfl ?_
  refine W_callS d_97_22 o_97 k_6_173 (by omega) (p_98 (by omega) hk) rfl (Nat.le_of_ble_eq_true rfl) ?_
  refine W_callV d_97_25 o_97 (Or.inl k_6_103) (by omega) (x_56 (show r0 < 3 by omega)) rfl (mrecv_of (h_road (by assumption)) o_56.symm) rfl (Nat.le_of_ble_eq_true rfl) ?_
  refine W_if_ne (tgt := 34) d_97_28 (by decide) (fun h28 => ?_) (fun h28 => absurd h28 (fun q => bI_f q ⟨nI_pos' (by omega), by rw [hn]; exact nI_lt hj (by omega)⟩))
  refine W_aload_n d_97_34 rfl (by decide) ?_
  refine W_callV d_97_35 o_97 (Or.inl k_6_176) (by omega) (x_122 e0 e1 hn hn12 (by omega)) rfl (mrecv_of rfl o_122.symm) rfl (Nat.le_of_ble_eq_true rfl) ?_
  refine W_aload_n d_97_38 rfl (by decide) ?_
  refine W_iload_n d_97_39 rfl ?_
  refine W_callVG d_97_40 o_97 (Or.inl k_6_179) (by omega) (x_123 e0 e1 ht hL ((bkA_12 _ _ _ _ 0 (by decide)).trans hn) hn12 ((bkA_12 _ _ _ _ 1 (by decide)).trans hp) hp6 ((bkA_12 _ _ _ _ 4 (by decide)).trans hlw) (by omega) (by omega)) rfl (mrecv_of rfl o_123.symm) rfl (Nat.le_of_ble_eq_true rfl) (fun G' => ?_)
  have hq := th_eq (Lr := T t) (z := z) (A := A) (r0 := r0) (r1 := r1) (p := p) (by omega) hn12 hp6 hn m
  have hne : ∀ r, ¬ r = r1 → hrs (bkA A r1 r0 n) r1 (T t) z n p m r = A r := fun r hr => th_ne hr
  have hn1 : hrs (bkA A r1 r0 n) r1 (T t) z n p m r1 12 0 = nI n := (hrs_ap _ _ _ _ _ _ _ _ (by decide) _).trans ((bkA_12 _ _ _ _ 0 (by decide)).trans hn)
  generalize hrs (bkA A r1 r0 n) r1 (T t) z n p m = A2 at hq hne hn1 ⊢
  have hj12 : j < 12 := by omega
  refine W_iload_n d_97_43 rfl ?_
  refine W_callS d_97_44 o_97 k_6_170 (by omega) (x_131 (by omega)) rfl (Nat.le_of_ble_eq_true rfl) ?_
  refine W_if_eq (tgt := 59) d_97_47 (by decide) (fun h47 => ?_) (fun h47 => absurd (bI_ne.mpr (fun q => absurd q.2 (nI_ge (a := 4) (b := 10 + 20 * k + j) (by omega) (by omega)))) h47)
  refine W_aload_n d_97_59 rfl (by decide) ?_
  refine W_getf d_97_60 o_97 k_6_16 rfl rfl ?_
  show Wp _ _ _ _ (Value.ref (rb 1) :: _) _ _
  rw [show rb 1 = rb r1 from by rw [e1]]
  have hq1 : r1 < 3 := by omega
  refine W_getf d_97_63 o_97 k_6_121 (h_road (by assumption)) rfl ?_
  refine W_iload_n d_97_66 rfl ?_
  refine W_callS d_97_67 o_97 k_6_173 (by omega) (p_98 (by omega) hk) rfl (Nat.le_of_ble_eq_true rfl) ?_
  refine W_aald d_97_70 (h_owners (by assumption)) (vp_in_nI (by omega) (by decide)) (owa_v (by omega)) ?_
  refine W_astore_n d_97_71 (ow_ne (by assumption) (by assumption)) rfl ?_
  refine W_iload_n d_97_72 rfl ?_
  refine W_bipush d_97_73 (v := 30) (by decide) ?_
  refine W_icmp_ge (tgt := 85) d_97_75 (by decide) (fun h75 => ?_) (fun h75 => ?_)
  · have q75 : 30 ≤ 10 + 20 * k + j := (nI_leI (a := 30) (b := 10 + 20 * k + j) (by omega) (by omega)).mp h75
    refine W_iload_n d_97_85 rfl ?_
    refine W_bipush d_97_86 (v := 50) (by decide) ?_
    refine W_icmp_ge (tgt := 98) d_97_88 (by decide) (fun h88 => ?_) (fun h88 => ?_)
    · have q88 : 50 ≤ 10 + 20 * k + j := (nI_leI (a := 50) (b := 10 + 20 * k + j) (by omega) (by omega)).mp h88
      refine W_aload_n d_97_98 rfl (ow_ne (by assumption) (by assumption)) ?_
      refine W_getf d_97_99 o_97 k_6_191 (h_owner (by assumption) (by assumption)) rfl ?_
      refine W_iret d_97_102 rt_97 rfl ?_
      obtain rfl : k = 2 := by omega
      exact ⟨congrArg (fun z => some (Value.int z)) (hq.lo (a := 2) (b := j) (by decide) hj), A2, _, _, rfl, hne⟩
    · have q88 : ¬ 50 ≤ 10 + 20 * k + j := mt (nI_leI (a := 50) (b := 10 + 20 * k + j) (by omega) (by omega)).mpr h88
      refine W_aload_n d_97_91 rfl (ow_ne (by assumption) (by assumption)) ?_
      refine W_getf d_97_92 o_97 k_6_188 (h_owner (by assumption) (by assumption)) rfl ?_
      refine W_goto (tgt := 102) d_97_95 (by decide) ?_
      refine W_iret d_97_102 rt_97 rfl ?_
      obtain rfl : k = 1 := by omega
      exact ⟨congrArg (fun z => some (Value.int z)) (hq.lo (a := 8) (b := j) (by decide) hj), A2, _, _, rfl, hne⟩
  · have q75 : ¬ 30 ≤ 10 + 20 * k + j := mt (nI_leI (a := 30) (b := 10 + 20 * k + j) (by omega) (by omega)).mpr h75
    refine W_aload_n d_97_78 rfl (ow_ne (by assumption) (by assumption)) ?_
    refine W_getf d_97_79 o_97 k_6_185 (h_owner (by assumption) (by assumption)) rfl ?_
    refine W_goto (tgt := 102) d_97_82 (by decide) ?_
    refine W_iret d_97_102 rt_97 rfl ?_
    obtain rfl : k = 0 := by omega
    exact ⟨congrArg (fun z => some (Value.int z)) (hq.lo (a := 7) (b := j) (by decide) hj), A2, _, _, rfl, hne⟩
theorem p_97a {d : Nat} {g : mG} {N : Nat} {A T K : Nat → tR} {B : tR} {E : Nat → Int32} {l : Int64} {G : tR} {Qm : Nat → mC} {r0 r1 : Nat} (e0 : r0 = 0) (e1 : r1 = 1) {v w : Int32} (hv : ¬ (0 ≤ v ∧ v ≤ 48)) (hd : 2 ≤ d) : Ex d 97 [.ref 0, .int v, .int w] (N, H3 g (cc A T K B E l G) Qm) (some (.int (-2))) (N, H3 g (cc A T K B E l G) Qm) := by
  refine Ex.of ?_
  show Wp _ 97 0 [.ref 0, .int v, .int w, .null] [] _ _
  refine W_iload_n d_97_0 rfl ?_
  refine W_callS d_97_1 o_97 k_6_167 (by omega) (x_130 (by omega)) rfl (Nat.le_of_ble_eq_true rfl) ?_
  refine W_if_ne (tgt := 10) d_97_4 (by decide) (fun h4 => absurd (bI_ne.mpr hv) h4) (fun h4 => ?_)
  refine W_bipush d_97_7 (v := (-2)) (by decide) ?_
  refine W_iret d_97_9 rt_97 rfl ?_
  exact ⟨rfl, rfl⟩
theorem told_none {n : Nat} (hn12 : n ≤ 12) {w : Int32} (h : ∀ j k, j < n → k < 3 → ¬ w = nI (10 + 20 * k + j)) (h1 : 10 ≤ w ∧ w < 70) : ¬ (0 ≤ w - 10 - (w - 10) / 20 * 20 ∧ w - 10 - (w - 10) / 20 * 20 < nI n) := by
  obtain ⟨c, hc, rfl⟩ := nI_of (x := w) (by
    have a := h1.1
    simp only [Int32.le_iff_toInt_le, Int32.lt_iff_toInt_lt, show (10 : Int32).toInt = 10 from rfl, show (0 : Int32).toInt = 0 from rfl] at *
    omega)
  have h2 : 10 ≤ c := (nI_leI (a := 10) (b := c) (by decide) hc).mp h1.1
  have h3 : c < 70 := (nI_ltI (a := c) (b := 70) hc (by decide)).mp h1.2
  rw [show (nI c - 10 : Int32) = nI (c - 10) from pk_sub (a := c) (b := 10) h2, show (nI (c - 10) - nI (c - 10) / 20 * 20 : Int32) = nI ((c - 10) % 20) from pk_rem (a := c - 10) (d := 20) (by omega) (by decide) (by decide)]
  rintro ⟨_, q⟩
  have q2 := (nI_ltI (a := (c - 10) % 20) (b := n) (by omega) (by omega)).mp q
  exact h ((c - 10) % 20) ((c - 10) / 20) q2 (by omega) (congrArg nI (by omega))
theorem p_97b {d : Nat} {g : mG} {N : Nat} {A T K : Nat → tR} {B : tR} {E : Nat → Int32} {l : Int64} {G : tR} {Qm : Nat → mC} {r0 r1 : Nat} (e0 : r0 = 0) (e1 : r1 = 1) {m : Nat} (hm : m ≤ 48) {w : Int32} (hw : ¬ (0 ≤ w ∧ w ≤ 4)) (hw2 : ¬ (10 ≤ w ∧ w < 70)) (hd : 2 ≤ d) : Ex d 97 [.ref 0, .int (nI m), .int w] (N, H3 g (cc A T K B E l G) Qm) (some (.int (-7))) (N, H3 g (cc A T K B E l G) Qm) := by
  refine Ex.of ?_
  show Wp _ 97 0 [.ref 0, .int (nI m), .int w, .null] [] _ _
  refine W_iload_n d_97_0 rfl ?_
  refine W_callS d_97_1 o_97 k_6_167 (by omega) (x_130 (by omega)) rfl (Nat.le_of_ble_eq_true rfl) ?_
  refine W_if_ne (tgt := 10) d_97_4 (by decide) (fun h4 => ?_) (fun h4 => absurd h4 (fun q => bI_f q ⟨nI_pos' (by omega), nI_le (a := m) (b := 48) hm (by decide)⟩))
  refine W_iload_n d_97_10 rfl ?_
  refine W_callS d_97_11 o_97 k_6_170 (by omega) (x_131 (by omega)) rfl (Nat.le_of_ble_eq_true rfl) ?_
  refine W_if_ne (tgt := 34) d_97_14 (by decide) (fun h14 => absurd (bI_ne.mpr hw) h14) (fun h14 => ?_)
  refine W_aload_n d_97_17 rfl (by decide) ?_
  refine W_getf d_97_18 o_97 k_6_10 rfl rfl ?_
  show Wp _ _ _ _ (Value.ref (rb 0) :: _) _ _
  rw [show rb 0 = rb r0 from by rw [e0]]
  have hq0 : r0 < 3 := by omega
  refine W_iload_n d_97_21 rfl ?_
  refine W_callS d_97_22 o_97 k_6_173 (by omega) (p_98n hw2) rfl (Nat.le_of_ble_eq_true rfl) ?_
  refine W_callV d_97_25 o_97 (Or.inl k_6_103) (by omega) (x_56 (show r0 < 3 by omega)) rfl (mrecv_of (h_road (by assumption)) o_56.symm) rfl (Nat.le_of_ble_eq_true rfl) ?_
  refine W_if_ne (tgt := 34) d_97_28 (by decide) (fun h28 => absurd (bI_ne.mpr (fun q => absurd q.1 (by decide))) h28) (fun h28 => ?_)
  refine W_bipush d_97_31 (v := (-7)) (by decide) ?_
  refine W_iret d_97_33 rt_97 rfl ?_
  exact ⟨rfl, rfl⟩
theorem p_98w {d : Nat} {M : mM} {w : Int32} (hw : 10 ≤ w ∧ w < 70) : Ex d 98 [.int w] M (some (.int (w - 10 - (w - 10) / 20 * 20))) M := by
  refine Ex.of ?_
  show Wp _ 98 0 [.int w] [] _ _
  refine W_iload_n d_98_0 rfl ?_
  refine W_bipush d_98_1 (v := 10) (by decide) ?_
  refine W_icmp_lt (tgt := 12) d_98_3 (by decide) (fun h3 => absurd h3 (Int32.not_lt.mpr hw.1)) (fun h3 => ?_)
  refine W_iload_n d_98_6 rfl ?_
  refine W_bipush d_98_7 (v := 70) (by decide) ?_
  refine W_icmp_lt (tgt := 16) d_98_9 (by decide) (fun h9 => ?_) (fun h9 => absurd hw.2 h9)
  refine W_iload_n d_98_16 rfl ?_
  refine W_bipush d_98_17 (v := 10) (by decide) ?_
  refine W_isub d_98_19 ?_
  refine W_bipush d_98_20 (v := 20) (by decide) ?_
  refine W_irem d_98_22 (by decide) ?_
  refine W_iret d_98_23 rt_98 rfl ?_
  exact ⟨rfl, rfl⟩
theorem p_97c {d : Nat} {g : mG} {N : Nat} {A T K : Nat → tR} {B : tR} {E : Nat → Int32} {l : Int64} {G : tR} {Qm : Nat → mC} {r0 r1 : Nat} (e0 : r0 = 0) (e1 : r1 = 1) {z : Nat → Nat} {n p t : Nat} (hX : CX (A r0) T z n p t) {m : Nat} (hm : m ≤ 48) {w : Int32} (hw : ¬ (0 ≤ w ∧ w ≤ 4)) (hw2 : 10 ≤ w ∧ w < 70) (hw3 : ∀ j k, j < n → k < 3 → ¬ w = nI (10 + 20 * k + j)) (hd : 2 ≤ d) : Ex d 97 [.ref 0, .int (nI m), .int w] (N, H3 g (cc A T K B E l G) Qm) (some (.int (-7))) (N, H3 g (cc A T K B E l G) Qm) := by
  refine Ex.of ?_
  show Wp _ 97 0 [.ref 0, .int (nI m), .int w, .null] [] _ _
  refine W_iload_n d_97_0 rfl ?_
  refine W_callS d_97_1 o_97 k_6_167 (by omega) (x_130 (by omega)) rfl (Nat.le_of_ble_eq_true rfl) ?_
  refine W_if_ne (tgt := 10) d_97_4 (by decide) (fun h4 => ?_) (fun h4 => absurd h4 (fun q => bI_f q ⟨nI_pos' (by omega), nI_le (a := m) (b := 48) hm (by decide)⟩))
  refine W_iload_n d_97_10 rfl ?_
  refine W_callS d_97_11 o_97 k_6_170 (by omega) (x_131 (by omega)) rfl (Nat.le_of_ble_eq_true rfl) ?_
  refine W_if_ne (tgt := 34) d_97_14 (by decide) (fun h14 => absurd (bI_ne.mpr hw) h14) (fun h14 => ?_)
  refine W_aload_n d_97_17 rfl (by decide) ?_
  refine W_getf d_97_18 o_97 k_6_10 rfl rfl ?_
  show Wp _ _ _ _ (Value.ref (rb 0) :: _) _ _
  rw [show rb 0 = rb r0 from by rw [e0]]
  have hq0 : r0 < 3 := by omega
  refine W_iload_n d_97_21 rfl ?_
  refine W_callS d_97_22 o_97 k_6_173 (by omega) (p_98w hw2) rfl (Nat.le_of_ble_eq_true rfl) ?_
  refine W_callV d_97_25 o_97 (Or.inl k_6_103) (by omega) (x_56 (show r0 < 3 by omega)) rfl (mrecv_of (h_road (by assumption)) o_56.symm) rfl (Nat.le_of_ble_eq_true rfl) ?_
  refine W_if_ne (tgt := 34) d_97_28 (by decide) (fun h28 => absurd (bI_ne.mpr (by rw [hX.1]; exact told_none hX.2.1 hw3 hw2)) h28) (fun h28 => ?_)
  refine W_bipush d_97_31 (v := (-7)) (by decide) ?_
  refine W_iret d_97_33 rt_97 rfl ?_
  exact ⟨rfl, rfl⟩
