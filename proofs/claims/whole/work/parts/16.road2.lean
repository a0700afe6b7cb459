/-! ROAD: become, the winter, the answers (wip/whole/gen16.py) -/
def bz (R : tR) : Nat → Int32 × Int32
  | 0 => (-1, -1)
  | i + 1 => if R 7 i ≤ (bz R i).2 then bz R i else (nI i, R 7 i)
theorem bz_of (R : tR) : ∀ n, ((bz R n).1 = -1 ∧ (bz R n).2 = -1) ∨ ∃ j, j < n ∧ (bz R n).1 = nI j ∧ (bz R n).2 = R 7 j
  | 0 => Or.inl ⟨rfl, rfl⟩
  | n + 1 => by
    simp only [bz]
    split
    · rcases bz_of R n with h | ⟨j, h1, h2⟩
      · exact Or.inl h
      · exact Or.inr ⟨j, by omega, h2⟩
    · exact Or.inr ⟨n, by omega, rfl, rfl⟩
theorem lp_75 {d : Nat} {g : mG} {N : Nat} {A T K : Nat → tR} {B : tR} {E : Nat → Int32} {l : Int64} {G : tR} {Qm : Nat → mC} {r : Nat} (hr : r < 3) {n : Nat} (hn : A r 12 0 = nI n) (hn12 : n ≤ 12) {Q : Option Value → mM → Prop} (kk : Q (some (.int (bz (A r) n).1)) (N, H3 g (cc A T K B E l G) Qm)) : ∀ k i, i + k = n → Wp d 75 6 [.ref (rb r), .int (bz (A r) i).1, .int (bz (A r) i).2, .int (nI i)] [] (N, H3 g (cc A T K B E l G) Qm) Q := by
  intro k
  induction k with
  | zero =>
    intro i hi
    obtain rfl : i = n := by omega
    skip
    refine W_iload_n d_75_6 rfl ?_
    refine W_aload_n d_75_7 rfl (rb_ne (by assumption)) ?_
    refine W_getf d_75_8 o_75 k_4_37 (h_road (by assumption)) rfl ?_
    rw [hn]
    refine W_icmp_ge (tgt := 45) d_75_11 (by decide) (fun h11 => ?_) (fun h11 => absurd (nI_le (a := i) (b := i) (by omega) (by omega)) h11)
    refine W_iload_n d_75_45 rfl ?_
    refine W_iret d_75_46 rt_75 rfl ?_
    exact kk
  | succ k ih =>
    intro i hi
    have hj : i < 12 := by omega
    refine W_iload_n d_75_6 rfl ?_
    refine W_aload_n d_75_7 rfl (rb_ne (by assumption)) ?_
    refine W_getf d_75_8 o_75 k_4_37 (h_road (by assumption)) rfl ?_
    rw [hn]
    refine W_icmp_ge (tgt := 45) d_75_11 (by decide) (fun h11 => absurd h11 (nI_ge (a := i) (b := n) (by omega) (by omega))) (fun h11 => ?_)
    refine W_aload_n d_75_14 rfl (rb_ne (by assumption)) ?_
    refine W_getf d_75_15 o_75 k_4_11 (h_road (by assumption)) rfl ?_
    refine W_iload_n d_75_18 rfl ?_
    refine W_aald d_75_19 (h_owners (by assumption)) (vp_in_nI (by omega) (by decide)) (owa_v (by omega)) ?_
    refine W_getf d_75_20 o_75 k_4_69 (h_owner (by assumption) (by assumption)) rfl ?_
    refine W_iload_n d_75_23 rfl ?_
    refine W_icmp_le (tgt := 39) d_75_24 (by decide) (fun h24 => ?_) (fun h24 => ?_)
    · refine W_iinc (v := 1) d_75_39 rfl (by decide) rfl ?_
      refine W_goto (tgt := 6) d_75_42 (by decide) ?_
      have h9 := ih (i + 1) (by omega)
      rw [nI_succ] at h9
      first | (rw [show bz (A r) (i + 1) = bz (A r) i from if_pos h24] at h9; exact h9) | (rw [show bz (A r) (i + 1) = (nI i, A r 7 i) from if_neg h24] at h9; exact h9)
    · refine W_aload_n d_75_27 rfl (rb_ne (by assumption)) ?_
      refine W_getf d_75_28 o_75 k_4_11 (h_road (by assumption)) rfl ?_
      refine W_iload_n d_75_31 rfl ?_
      refine W_aald d_75_32 (h_owners (by assumption)) (vp_in_nI (by omega) (by decide)) (owa_v (by omega)) ?_
      refine W_getf d_75_33 o_75 k_4_69 (h_owner (by assumption) (by assumption)) rfl ?_
      refine W_istore_n d_75_36 rfl ?_
      refine W_iload_n d_75_37 rfl ?_
      refine W_istore_n d_75_38 rfl ?_
      refine W_iinc (v := 1) d_75_39 rfl (by decide) rfl ?_
      refine W_goto (tgt := 6) d_75_42 (by decide) ?_
      have h9 := ih (i + 1) (by omega)
      rw [nI_succ] at h9
      first | (rw [show bz (A r) (i + 1) = bz (A r) i from if_pos h24] at h9; exact h9) | (rw [show bz (A r) (i + 1) = (nI i, A r 7 i) from if_neg h24] at h9; exact h9)
theorem x_75 {d : Nat} {g : mG} {N : Nat} {A T K : Nat → tR} {B : tR} {E : Nat → Int32} {l : Int64} {G : tR} {Qm : Nat → mC} {r : Nat} (hr : r < 3) {n : Nat} (hn : A r 12 0 = nI n) (hn12 : n ≤ 12) : Ex d 75 [.ref (rb r)] (N, H3 g (cc A T K B E l G) Qm) (some (.int (bz (A r) n).1)) (N, H3 g (cc A T K B E l G) Qm) := by
  refine Ex.of ?_
  show Wp _ 75 0 [.ref (rb r), .null, .null, .null] [] _ _
  refine W_iconst d_75_0 (v := (-1)) (by decide) ?_
  refine W_istore_n d_75_1 rfl ?_
  refine W_iconst d_75_2 (v := (-1)) (by decide) ?_
  refine W_istore_n d_75_3 rfl ?_
  refine W_iconst d_75_4 (v := 0) (by decide) ?_
  refine W_istore_n d_75_5 rfl ?_
  exact lp_75 hr hn hn12 (And.intro rfl rfl) n 0 (by omega)
def hh (R : tR) : Nat → Int32
  | 0 => -1
  | i + 1 => i_max (hh R i) (R 3 i)
theorem lp_74 {d : Nat} {g : mG} {N : Nat} {A T K : Nat → tR} {B : tR} {E : Nat → Int32} {l : Int64} {G : tR} {Qm : Nat → mC} {r : Nat} (hr : r < 3) {n : Nat} (hn : A r 12 0 = nI n) (hn12 : n ≤ 12) (hd : 1 ≤ d) {Q : Option Value → mM → Prop} (kk : Q (some (.int (hh (A r) n))) (N, H3 g (cc A T K B E l G) Qm)) : ∀ k i, i + k = n → Wp d 74 4 [.ref (rb r), .int (hh (A r) i), .int (nI i)] [] (N, H3 g (cc A T K B E l G) Qm) Q := by
  intro k
  induction k with
  | zero =>
    intro i hi
    obtain rfl : i = n := by omega
    skip
    refine W_iload_n d_74_4 rfl ?_
    refine W_aload_n d_74_5 rfl (rb_ne (by assumption)) ?_
    refine W_getf d_74_6 o_74 k_4_37 (h_road (by assumption)) rfl ?_
    rw [hn]
    refine W_icmp_ge (tgt := 32) d_74_9 (by decide) (fun h9 => ?_) (fun h9 => absurd (nI_le (a := i) (b := i) (by omega) (by omega)) h9)
    refine W_iload_n d_74_32 rfl ?_
    refine W_iret d_74_33 rt_74 rfl ?_
    exact kk
  | succ k ih =>
    intro i hi
    have hj : i < 12 := by omega
    refine W_iload_n d_74_4 rfl ?_
    refine W_aload_n d_74_5 rfl (rb_ne (by assumption)) ?_
    refine W_getf d_74_6 o_74 k_4_37 (h_road (by assumption)) rfl ?_
    rw [hn]
    refine W_icmp_ge (tgt := 32) d_74_9 (by decide) (fun h9 => absurd h9 (nI_ge (a := i) (b := n) (by omega) (by omega))) (fun h9 => ?_)
    refine W_iload_n d_74_12 rfl ?_
    refine W_aload_n d_74_13 rfl (rb_ne (by assumption)) ?_
    refine W_getf d_74_14 o_74 k_4_11 (h_road (by assumption)) rfl ?_
    refine W_iload_n d_74_17 rfl ?_
    refine W_aald d_74_18 (h_owners (by assumption)) (vp_in_nI (by omega) (by decide)) (owa_v (by omega)) ?_
    refine W_getf d_74_19 o_74 k_4_122 (h_owner (by assumption) (by assumption)) rfl ?_
    refine W_callS d_74_22 o_74 k_4_148 (by omega) x_13 rfl (Nat.le_of_ble_eq_true rfl) ?_
    refine W_istore_n d_74_25 rfl ?_
    refine W_iinc (v := 1) d_74_26 rfl (by decide) rfl ?_
    refine W_goto (tgt := 4) d_74_29 (by decide) ?_
    have h9 := ih (i + 1) (by omega)
    rw [nI_succ] at h9
    exact h9
theorem x_74 {d : Nat} {g : mG} {N : Nat} {A T K : Nat → tR} {B : tR} {E : Nat → Int32} {l : Int64} {G : tR} {Qm : Nat → mC} {r : Nat} (hr : r < 3) {n : Nat} (hn : A r 12 0 = nI n) (hn12 : n ≤ 12) (hd : 1 ≤ d) : Ex d 74 [.ref (rb r)] (N, H3 g (cc A T K B E l G) Qm) (some (.int (hh (A r) n))) (N, H3 g (cc A T K B E l G) Qm) := by
  refine Ex.of ?_
  show Wp _ 74 0 [.ref (rb r), .null, .null] [] _ _
  refine W_iconst d_74_0 (v := (-1)) (by decide) ?_
  refine W_istore_n d_74_1 rfl ?_
  refine W_iconst d_74_2 (v := 0) (by decide) ?_
  refine W_istore_n d_74_3 rfl ?_
  exact lp_74 hr hn hn12 hd (And.intro rfl rfl) n 0 (by omega)
def mom (R : tR) (n : Nat) : Int32 := if (bz R n).1 = -1 then 0 else (bz R n).2
theorem x_73 {d : Nat} {g : mG} {N : Nat} {A T K : Nat → tR} {B : tR} {E : Nat → Int32} {l : Int64} {G : tR} {Qm : Nat → mC} {r : Nat} (hr : r < 3) {n : Nat} (hn : A r 12 0 = nI n) (hn12 : n ≤ 12) (hd : 1 ≤ d) : Ex d 73 [.ref (rb r)] (N, H3 g (cc A T K B E l G) Qm) (some (.int (mom (A r) n))) (N, H3 g (cc A T K B E l G) Qm) := by
  refine Ex.of ?_
  show Wp _ 73 0 [.ref (rb r), .null] [] _ _
  refine W_aload_n d_73_0 rfl (rb_ne (by assumption)) ?_
  refine W_callV d_73_1 o_73 (Or.inl k_4_145) (by omega) (x_75 hr hn hn12) rfl (mrecv_of (h_road (by assumption)) o_75.symm) rfl (Nat.le_of_ble_eq_true rfl) ?_
  refine W_istore_n d_73_4 rfl ?_
  refine W_iload_n d_73_5 rfl ?_
  refine W_iconst d_73_6 (v := (-1)) (by decide) ?_
  refine W_icmp_ne (tgt := 14) d_73_7 (by decide) (fun h7 => ?_) (fun h7 => ?_)
  · obtain ⟨j, hj, e1, e2⟩ := (bz_of (A r) n).resolve_left (fun q => h7 q.1)
    have hj12 : j < 12 := by omega
    refine W_aload_n d_73_14 rfl (rb_ne (by assumption)) ?_
    refine W_getf d_73_15 o_73 k_4_11 (h_road (by assumption)) rfl ?_
    refine W_iload_n d_73_18 rfl ?_
    rw [e1]
    refine W_aald d_73_19 (h_owners (by assumption)) (vp_in_nI (by omega) (by decide)) (owa_v (by omega)) ?_
    refine W_getf d_73_20 o_73 k_4_69 (h_owner (by assumption) (by assumption)) rfl ?_
    refine W_iret d_73_23 rt_73 rfl ?_
    exact ⟨congrArg (fun z => some (Value.int z)) ((if_neg h7).trans e2).symm, rfl⟩
  · refine W_iconst d_73_10 (v := 0) (by decide) ?_
    refine W_goto (tgt := 23) d_73_11 (by decide) ?_
    refine W_iret d_73_23 rt_73 rfl ?_
    exact ⟨congrArg (fun z => some (Value.int z)) (if_pos h7).symm, rfl⟩
def ans_ (R : tR) (n : Nat) (what : Int32) : Int32 := if what = 0 then sm7 R n else if what = 1 then sm8 R n else if what = 2 then R 12 5 else if what = 3 then hh R n else (bz R n).1
theorem x_70 {d : Nat} {g : mG} {N : Nat} {A T K : Nat → tR} {B : tR} {E : Nat → Int32} {l : Int64} {G : tR} {Qm : Nat → mC} {r : Nat} (hr : r < 3) {n : Nat} (hn : A r 12 0 = nI n) (hn12 : n ≤ 12) {what : Int32} (hd : 2 ≤ d) : Ex d 70 [.ref (rb r), .int what] (N, H3 g (cc A T K B E l G) Qm) (some (.int (ans_ (A r) n what))) (N, H3 g (cc A T K B E l G) Qm) := by
  refine Ex.of ?_
  show Wp _ 70 0 [.ref (rb r), .int what] [] _ _
  refine W_iload_n d_70_0 rfl ?_
  by_cases s1_0 : what = 0
  · refine W_table (tgt := 32) d_70_1 (off := 31) (by rw [s1_0]; decide) (by decide) ?_
    refine W_aload_n d_70_32 rfl (rb_ne (by assumption)) ?_
    refine W_callV d_70_33 o_70 (Or.inl k_4_135) (by omega) (x_71 hr hn hn12) rfl (mrecv_of (h_road (by assumption)) o_71.symm) rfl (Nat.le_of_ble_eq_true rfl) ?_
    refine W_iret d_70_36 rt_70 rfl ?_
    exact ⟨congrArg (fun z => some (Value.int z)) (by unfold ans_; simp [*]), rfl⟩
  by_cases s1_1 : what = 1
  · refine W_table (tgt := 37) d_70_1 (off := 36) (by rw [s1_1]; decide) (by decide) ?_
    refine W_aload_n d_70_37 rfl (rb_ne (by assumption)) ?_
    refine W_callV d_70_38 o_70 (Or.inl k_4_139) (by omega) (x_72 hr hn hn12) rfl (mrecv_of (h_road (by assumption)) o_72.symm) rfl (Nat.le_of_ble_eq_true rfl) ?_
    refine W_iret d_70_41 rt_70 rfl ?_
    exact ⟨congrArg (fun z => some (Value.int z)) (by unfold ans_; simp [*]), rfl⟩
  by_cases s1_2 : what = 2
  · refine W_table (tgt := 42) d_70_1 (off := 41) (by rw [s1_2]; decide) (by decide) ?_
    refine W_aload_n d_70_42 rfl (rb_ne (by assumption)) ?_
    refine W_getf d_70_43 o_70 k_4_66 (h_road (by assumption)) rfl ?_
    refine W_iret d_70_46 rt_70 rfl ?_
    exact ⟨congrArg (fun z => some (Value.int z)) (by unfold ans_; simp [*]), rfl⟩
  by_cases s1_3 : what = 3
  · refine W_table (tgt := 47) d_70_1 (off := 46) (by rw [s1_3]; decide) (by decide) ?_
    refine W_aload_n d_70_47 rfl (rb_ne (by assumption)) ?_
    refine W_callV d_70_48 o_70 (Or.inl k_4_142) (by omega) (x_74 hr hn hn12 (by omega)) rfl (mrecv_of (h_road (by assumption)) o_74.symm) rfl (Nat.le_of_ble_eq_true rfl) ?_
    refine W_iret d_70_51 rt_70 rfl ?_
    exact ⟨congrArg (fun z => some (Value.int z)) (by unfold ans_; simp [*]), rfl⟩
  refine W_table (tgt := 52) d_70_1 (off := 51) (if_pos (by have q0 := lv_neT (a := 0) s1_0 (by decide); have q1 := lv_neT (a := 1) s1_1 (by decide); have q2 := lv_neT (a := 2) s1_2 (by decide); have q3 := lv_neT (a := 3) s1_3 (by decide); omega)) (by decide) ?_
  refine W_aload_n d_70_52 rfl (rb_ne (by assumption)) ?_
  refine W_callV d_70_53 o_70 (Or.inl k_4_145) (by omega) (x_75 hr hn hn12) rfl (mrecv_of (h_road (by assumption)) o_75.symm) rfl (Nat.le_of_ble_eq_true rfl) ?_
  refine W_iret d_70_56 rt_70 rfl ?_
  exact ⟨congrArg (fun z => some (Value.int z)) (by unfold ans_; simp [*]), rfl⟩
def fo (P Q : Nat → Int32) : Nat → Nat → Int32
  | 0, _ => -1
  | k + 1, i => if P i = Q i then fo P Q k (i + 1) else nI i
theorem lp_76 {d : Nat} {g : mG} {N : Nat} {A T K : Nat → tR} {B : tR} {E : Nat → Int32} {l : Int64} {G : tR} {Qm : Nat → mC} {r : Nat} (hr : r < 3) {s : Nat} (hs : s < 4) {n : Nat} (hn : A r 12 0 = nI n) (hn12 : n ≤ 12) {Q : Option Value → mM → Prop} : ∀ k i, i + k = n → Q (some (.int (fo (K s 0) (A r 2) k i))) (N, H3 g (cc A T K B E l G) Qm) → Wp d 76 2 [.ref (rb r), .ref (sb s), .int (nI i)] [] (N, H3 g (cc A T K B E l G) Qm) Q := by
  intro k
  induction k with
  | zero =>
    intro i hi kk
    obtain rfl : i = n := by omega
    refine W_iload_n d_76_2 rfl ?_
    refine W_aload_n d_76_3 rfl (rb_ne (by assumption)) ?_
    refine W_getf d_76_4 o_76 k_4_37 (h_road (by assumption)) rfl ?_
    rw [hn]
    refine W_icmp_ge (tgt := 36) d_76_7 (by decide) (fun h7 => ?_) (fun h7 => absurd (nI_le (a := i) (b := i) (by omega) (by omega)) h7)
    refine W_iconst d_76_36 (v := (-1)) (by decide) ?_
    refine W_iret d_76_37 rt_76 rfl ?_
    exact kk
  | succ k ih =>
    intro i hi kk
    have hj : i < 12 := by omega
    refine W_iload_n d_76_2 rfl ?_
    refine W_aload_n d_76_3 rfl (rb_ne (by assumption)) ?_
    refine W_getf d_76_4 o_76 k_4_37 (h_road (by assumption)) rfl ?_
    rw [hn]
    refine W_icmp_ge (tgt := 36) d_76_7 (by decide) (fun h7 => absurd h7 (nI_ge (a := i) (b := n) (by omega) (by omega))) (fun h7 => ?_)
    refine W_aload_n d_76_10 rfl (sb_ne (by assumption)) ?_
    refine W_getf d_76_11 o_76 k_4_151 (h_sheet (by assumption)) rfl ?_
    refine W_iload_n d_76_14 rfl ?_
    refine W_iald d_76_15 (h_row (by assumption)) (by decide) (vp_in_nI (by omega) (by decide)) (congrArg _ (nI_clamp (by omega))) ?_
    refine W_aload_n d_76_16 rfl (rb_ne (by assumption)) ?_
    refine W_getf d_76_17 o_76 k_4_11 (h_road (by assumption)) rfl ?_
    refine W_iload_n d_76_20 rfl ?_
    refine W_aald d_76_21 (h_owners (by assumption)) (vp_in_nI (by omega) (by decide)) (owa_v (by omega)) ?_
    refine W_getf d_76_22 o_76 k_4_95 (h_owner (by assumption) (by assumption)) rfl ?_
    refine W_icmp_eq (tgt := 30) d_76_25 (by decide) (fun h25 => ?_) (fun h25 => ?_)
    · refine W_iinc (v := 1) d_76_30 rfl (by decide) rfl ?_
      refine W_goto (tgt := 2) d_76_33 (by decide) ?_
      rw [show fo (K s 0) (A r 2) (k + 1) i = fo (K s 0) (A r 2) k (i + 1) from if_pos h25] at kk
      have h9 := ih (i + 1) (by omega) kk
      rw [nI_succ] at h9
      exact h9
    · refine W_iload_n d_76_28 rfl ?_
      refine W_iret d_76_29 rt_76 rfl ?_
      rw [show fo (K s 0) (A r 2) (k + 1) i = nI i from if_neg h25] at kk
      exact kk
theorem x_76 {d : Nat} {g : mG} {N : Nat} {A T K : Nat → tR} {B : tR} {E : Nat → Int32} {l : Int64} {G : tR} {Qm : Nat → mC} {r : Nat} (hr : r < 3) {s : Nat} (hs : s < 4) {n : Nat} (hn : A r 12 0 = nI n) (hn12 : n ≤ 12) : Ex d 76 [.ref (rb r), .ref (sb s)] (N, H3 g (cc A T K B E l G) Qm) (some (.int (fo (K s 0) (A r 2) n 0))) (N, H3 g (cc A T K B E l G) Qm) := by
  refine Ex.of ?_
  show Wp _ 76 0 [.ref (rb r), .ref (sb s), .null] [] _ _
  refine W_iconst d_76_0 (v := 0) (by decide) ?_
  refine W_istore_n d_76_1 rfl ?_
  exact lp_76 hr hs hn hn12 n 0 (by omega) (And.intro rfl rfl)
def lni (l : Int64) : Nat → Int64
  | 0 => l
  | i + 1 => lnx (lni l i)
def ldr (l : Int64) (m : Int32) (i : Nat) : Int32 := (l_mod (lni l (i + 1)) (m + 1).toInt64).toInt32
def sbA (A : Nat → tR) (r : Nat) (l : Int64) (m : Int32) : Nat → Nat → tR
  | 0 => A
  | i + 1 => u3 (sbA A r l m i) r 9 i (i_min 999 (sbA A r l m i r 9 i + ldr l m i))
theorem lp_63 {d : Nat} {g : mG} {N : Nat} {A T K : Nat → tR} {B : tR} {E : Nat → Int32} {l : Int64} {G : tR} {Qm : Nat → mC} {r : Nat} (hr : r < 3) {m : Int32} (hm : ¬ (m + 1).toInt64 = 0) {n : Nat} (h6 : n = 6) (hd : 1 ≤ d) {Q : Option Value → mM → Prop} (kk : Q none (N, H3 g (cc (sbA A r l m n) T K B E (lni l n) G) Qm)) : ∀ k i, i + k = n → Wp d 63 2 [.ref (rb r), .ref 59, .int m, .int (nI i)] [] (N, H3 g (cc (sbA A r l m i) T K B E (lni l i) G) Qm) Q := by
  intro k
  induction k with
  | zero =>
    intro i hi
    obtain rfl : i = n := by omega
    skip
    refine W_iload_n d_63_2 rfl ?_
    refine W_aload_n d_63_3 rfl (rb_ne (by assumption)) ?_
    refine W_getf d_63_4 o_63 k_4_17 (h_road (by assumption)) rfl ?_
    refine W_alen (n := 6) (v := 6) d_63_7 ((congrArg mlen (h_lies (by assumption))).trans rfl) (by decide) ?_
    first | rw [show (6 : Int32) = nI n from by subst h6; rfl] | rw [show (6 : Int32) = nI i from by subst h6; rfl]
    refine W_icmp_ge (tgt := 41) d_63_8 (by decide) (fun h8 => ?_) (fun h8 => absurd (nI_le (a := i) (b := i) (by omega) (by omega)) h8)
    refine W_ret d_63_41 rt_63 ?_
    exact kk
  | succ k ih =>
    intro i hi
    have hj : i < 6 := by omega
    refine W_iload_n d_63_2 rfl ?_
    refine W_aload_n d_63_3 rfl (rb_ne (by assumption)) ?_
    refine W_getf d_63_4 o_63 k_4_17 (h_road (by assumption)) rfl ?_
    refine W_alen (n := 6) (v := 6) d_63_7 ((congrArg mlen (h_lies (by assumption))).trans rfl) (by decide) ?_
    first | rw [show (6 : Int32) = nI n from by subst h6; rfl] | rw [show (6 : Int32) = nI i from by subst h6; rfl]
    refine W_icmp_ge (tgt := 41) d_63_8 (by decide) (fun h8 => absurd h8 (nI_ge (a := i) (b := n) (by omega) (by omega))) (fun h8 => ?_)
    refine W_aload_n d_63_11 rfl (rb_ne (by assumption)) ?_
    refine W_getf d_63_12 o_63 k_4_17 (h_road (by assumption)) rfl ?_
    refine W_iload_n d_63_15 rfl ?_
    refine W_sipush d_63_16 (v := 999) (by decide) ?_
    refine W_aload_n d_63_19 rfl (rb_ne (by assumption)) ?_
    refine W_getf d_63_20 o_63 k_4_17 (h_road (by assumption)) rfl ?_
    refine W_iload_n d_63_23 rfl ?_
    refine W_iald d_63_24 (h_lies (by assumption)) (by decide) (vp_in_nI (by omega) (by decide)) (congrArg _ (nI_clamp (by omega))) ?_
    refine W_aload_n d_63_25 rfl (by decide) ?_
    refine W_iload_n d_63_26 rfl ?_
    refine W_callV d_63_27 o_63 (Or.inl k_4_75) (by omega) (x_24 hm) rfl (mrecv_of rfl o_24.symm) rfl (Nat.le_of_ble_eq_true rfl) ?_
    refine W_iadd d_63_30 ?_
    refine W_callS d_63_31 o_63 k_4_81 (by omega) x_14 rfl (Nat.le_of_ble_eq_true rfl) ?_
    refine W_iast d_63_34 (h_lies (by assumption)) (vp_in_nI (by omega) (by decide)) (ms_liesU (by assumption) (nI_clamp (by omega))) ?_
    refine W_iinc (v := 1) d_63_35 rfl (by decide) rfl ?_
    refine W_goto (tgt := 2) d_63_38 (by decide) ?_
    have h9 := ih (i + 1) (by omega)
    rw [nI_succ] at h9
    exact h9
theorem x_63 {d : Nat} {g : mG} {N : Nat} {A T K : Nat → tR} {B : tR} {E : Nat → Int32} {l : Int64} {G : tR} {Qm : Nat → mC} {r : Nat} (hr : r < 3) {m : Int32} (hm : ¬ (m + 1).toInt64 = 0) (hd : 1 ≤ d) : Ex d 63 [.ref (rb r), .ref 59, .int m] (N, H3 g (cc A T K B E l G) Qm) none (N, H3 g (cc (sbA A r l m 6) T K B E (lni l 6) G) Qm) := by
  refine Ex.of ?_
  show Wp _ 63 0 [.ref (rb r), .ref 59, .int m, .null] [] _ _
  refine W_iconst d_63_0 (v := 0) (by decide) ?_
  refine W_istore_n d_63_1 rfl ?_
  exact lp_63 hr hm rfl hd (And.intro rfl rfl) 6 0 (by omega)
theorem vuA {α : Type} (f : Nat → α) (i : Nat) (v : α) (j : Nat) : va_up f i v j = if j = i then v else f j := rfl
def bcA (A : Nat → tR) (r r2 : Nat) : Nat → Nat → tR
  | 0 => u3 A r 12 0 (A r2 12 0)
  | i + 1 => owB (bcA A r r2 i) r r2 i
theorem bcA_ap (A : Nat → tR) (r r2 : Nat) (hne : ¬ r2 = r) (i r' a j : Nat) : bcA A r r2 i r' a j = if r' = r ∧ a = 12 ∧ j = 0 then A r2 12 0 else if r' = r ∧ a < 7 ∧ j < i then A r2 a j else A r' a j := by
  induction i generalizing r' a j with
  | zero => simp [bcA, u3_ap]
  | succ i ih =>
    simp only [bcA, owB, u3_ap, ih]
    by_cases hr : r' = r
    · subst hr
      by_cases h12 : a = 12
      · subst h12; simp [hne]
      · by_cases ha : a < 7
        · by_cases hj : j = i
          · subst hj
            have : a = 0 ∨ a = 1 ∨ a = 2 ∨ a = 3 ∨ a = 4 ∨ a = 5 ∨ a = 6 := by omega
            rcases this with rfl | rfl | rfl | rfl | rfl | rfl | rfl <;> simp [hne]
          · have e : (j < i + 1) = (j < i) := by apply propext; omega
            simp [hj, h12, e]
        · have : ¬ a = 0 ∧ ¬ a = 1 ∧ ¬ a = 2 ∧ ¬ a = 3 ∧ ¬ a = 4 ∧ ¬ a = 5 ∧ ¬ a = 6 := by omega
          simp [this, h12, ha]
    · simp [hr]
theorem lp_61 {d : Nat} {g : mG} {N : Nat} {A T K : Nat → tR} {B : tR} {E : Nat → Int32} {l : Int64} {G : tR} {Qm : Nat → mC} {r : Nat} (hr : r < 3) {r2 : Nat} (hr2 : r2 < 3) (hne : ¬ r2 = r) {n : Nat} (hn : A r2 12 0 = nI n) (hn12 : n ≤ 12) (hd : 1 ≤ d) {Q : Option Value → mM → Prop} (kk : Wp d 61 39 [.ref (rb r), .ref (rb r2), .int (nI n)] [] (N, H3 g (cc (bcA A r r2 n) T K B E l G) Qm) Q) : ∀ k i, i + k = n → Wp d 61 10 [.ref (rb r), .ref (rb r2), .int (nI i)] [] (N, H3 g (cc (bcA A r r2 i) T K B E l G) Qm) Q := by
  intro k
  induction k with
  | zero =>
    intro i hi
    obtain rfl : i = n := by omega
    have hc : bcA A r r2 i r 12 0 = nI i := by rw [bcA_ap _ _ _ hne, if_pos (by omega), hn]
    refine W_iload_n d_61_10 rfl ?_
    refine W_aload_n d_61_11 rfl (rb_ne (by assumption)) ?_
    refine W_getf d_61_12 o_61 k_4_37 (h_road (by assumption)) rfl ?_
    rw [hc]
    refine W_icmp_ge (tgt := 39) d_61_15 (by decide) (fun h15 => ?_) (fun h15 => absurd (nI_le (a := i) (b := i) (by omega) (by omega)) h15)
    exact kk
  | succ k ih =>
    intro i hi
    have hc : bcA A r r2 i r 12 0 = nI n := by rw [bcA_ap _ _ _ hne, if_pos (by omega), hn]
    have hj : i < 12 := by omega
    refine W_iload_n d_61_10 rfl ?_
    refine W_aload_n d_61_11 rfl (rb_ne (by assumption)) ?_
    refine W_getf d_61_12 o_61 k_4_37 (h_road (by assumption)) rfl ?_
    rw [hc]
    refine W_icmp_ge (tgt := 39) d_61_15 (by decide) (fun h15 => absurd h15 (nI_ge (a := i) (b := n) (by omega) (by omega))) (fun h15 => ?_)
    refine W_aload_n d_61_18 rfl (rb_ne (by assumption)) ?_
    refine W_getf d_61_19 o_61 k_4_11 (h_road (by assumption)) rfl ?_
    refine W_iload_n d_61_22 rfl ?_
    refine W_aald d_61_23 (h_owners (by assumption)) (vp_in_nI (by omega) (by decide)) (owa_v (by omega)) ?_
    refine W_aload_n d_61_24 rfl (rb_ne (by assumption)) ?_
    refine W_getf d_61_25 o_61 k_4_11 (h_road (by assumption)) rfl ?_
    refine W_iload_n d_61_28 rfl ?_
    refine W_aald d_61_29 (h_owners (by assumption)) (vp_in_nI (by omega) (by decide)) (owa_v (by omega)) ?_
    refine W_callV d_61_30 o_61 (Or.inl k_4_47) (by omega) (x_27 hr hj hr2) rfl (mrecv_of (h_owner (by assumption) (by assumption)) o_27.symm) rfl (Nat.le_of_ble_eq_true rfl) ?_
    refine W_iinc (v := 1) d_61_33 rfl (by decide) rfl ?_
    refine W_goto (tgt := 10) d_61_36 (by decide) ?_
    have h9 := ih (i + 1) (by omega)
    rw [nI_succ] at h9
    exact h9
def bkA (A : Nat → tR) (r r2 n : Nat) : Nat → tR := fun r' a b => if r' = r ∧ ((a < 7 ∧ b < n) ∨ ((a = 9 ∨ a = 10 ∨ a = 11) ∧ b < 6) ∨ (a = 12 ∧ b < 5)) then A r2 a b else if r' = r ∧ (((a = 7 ∨ a = 8) ∧ b < n) ∨ (a = 12 ∧ b = 5)) then 0 else A r' a b
theorem x_61 {d : Nat} {g : mG} {N : Nat} {A T K : Nat → tR} {B : tR} {E : Nat → Int32} {l : Int64} {G : tR} {Qm : Nat → mC} {r : Nat} (hr : r < 3) {r2 : Nat} (hr2 : r2 < 3) (hne : ¬ r2 = r) {n : Nat} (hn : A r2 12 0 = nI n) (hn12 : n ≤ 12) (hd : 1 ≤ d) : Ex d 61 [.ref (rb r), .ref (rb r2)] (N, H3 g (cc A T K B E l G) Qm) none (N, H3 g (cc (bkA A r r2 n) T K B E l G) Qm) := by
  refine Ex.of ?_
  show Wp _ 61 0 [.ref (rb r), .ref (rb r2), .null] [] _ _
  refine W_aload_n d_61_0 rfl (rb_ne (by assumption)) ?_
  refine W_aload_n d_61_1 rfl (rb_ne (by assumption)) ?_
  refine W_getf d_61_2 o_61 k_4_37 (h_road (by assumption)) rfl ?_
  refine W_putf d_61_5 o_61 k_4_37 (h_road (by assumption)) (Nat.le_of_ble_eq_true rfl) rfl (ms_rd1 (by assumption)) ?_
  refine W_iconst d_61_8 (v := 0) (by decide) ?_
  refine W_istore_n d_61_9 rfl ?_
  refine lp_61 hr hr2 hne hn hn12 hd ?_ n 0 (by omega)
  refine W_aload_n d_61_39 rfl (rb_ne (by assumption)) ?_
  refine W_getf d_61_40 o_61 k_4_17 (h_road (by assumption)) rfl ?_
  refine W_iconst d_61_43 (v := 0) (by decide) ?_
  refine W_aload_n d_61_44 rfl (rb_ne (by assumption)) ?_
  refine W_getf d_61_45 o_61 k_4_17 (h_road (by assumption)) rfl ?_
  refine W_iconst d_61_48 (v := 0) (by decide) ?_
  refine W_bipush d_61_49 (v := 6) (by decide) ?_
  refine W_copy d_61_51 o_61 k_4_51 (h_lies hr2) (h_lies hr) (by decide) (by decide) (by decide) (by decide) (by decide) (ms_lies hr) ?_
  refine W_aload_n d_61_54 rfl (rb_ne (by assumption)) ?_
  refine W_getf d_61_55 o_61 k_4_21 (h_road (by assumption)) rfl ?_
  refine W_iconst d_61_58 (v := 0) (by decide) ?_
  refine W_aload_n d_61_59 rfl (rb_ne (by assumption)) ?_
  refine W_getf d_61_60 o_61 k_4_21 (h_road (by assumption)) rfl ?_
  refine W_iconst d_61_63 (v := 0) (by decide) ?_
  refine W_bipush d_61_64 (v := 6) (by decide) ?_
  refine W_copy d_61_66 o_61 k_4_51 (h_pho hr2) (h_pho hr) (by decide) (by decide) (by decide) (by decide) (by decide) (ms_pho hr) ?_
  refine W_aload_n d_61_69 rfl (rb_ne (by assumption)) ?_
  refine W_getf d_61_70 o_61 k_4_24 (h_road (by assumption)) rfl ?_
  refine W_iconst d_61_73 (v := 0) (by decide) ?_
  refine W_aload_n d_61_74 rfl (rb_ne (by assumption)) ?_
  refine W_getf d_61_75 o_61 k_4_24 (h_road (by assumption)) rfl ?_
  refine W_iconst d_61_78 (v := 0) (by decide) ?_
  refine W_bipush d_61_79 (v := 6) (by decide) ?_
  refine W_copy d_61_81 o_61 k_4_51 (h_psi hr2) (h_psi hr) (by decide) (by decide) (by decide) (by decide) (by decide) (ms_psi hr) ?_
  refine W_aload_n d_61_84 rfl (rb_ne (by assumption)) ?_
  refine W_aload_n d_61_85 rfl (rb_ne (by assumption)) ?_
  refine W_getf d_61_86 o_61 k_4_40 (h_road (by assumption)) rfl ?_
  refine W_putf d_61_89 o_61 k_4_40 (h_road (by assumption)) (Nat.le_of_ble_eq_true rfl) rfl (ms_rd5 (by assumption)) ?_
  refine W_aload_n d_61_92 rfl (rb_ne (by assumption)) ?_
  refine W_aload_n d_61_93 rfl (rb_ne (by assumption)) ?_
  refine W_getf d_61_94 o_61 k_4_57 (h_road (by assumption)) rfl ?_
  refine W_putf d_61_97 o_61 k_4_57 (h_road (by assumption)) (Nat.le_of_ble_eq_true rfl) rfl (ms_rd6 (by assumption)) ?_
  refine W_aload_n d_61_100 rfl (rb_ne (by assumption)) ?_
  refine W_aload_n d_61_101 rfl (rb_ne (by assumption)) ?_
  refine W_getf d_61_102 o_61 k_4_27 (h_road (by assumption)) rfl ?_
  refine W_putf d_61_105 o_61 k_4_27 (h_road (by assumption)) (Nat.le_of_ble_eq_true rfl) rfl (ms_rd7 (by assumption)) ?_
  refine W_aload_n d_61_108 rfl (rb_ne (by assumption)) ?_
  refine W_aload_n d_61_109 rfl (rb_ne (by assumption)) ?_
  refine W_getf d_61_110 o_61 k_4_60 (h_road (by assumption)) rfl ?_
  refine W_putf d_61_113 o_61 k_4_60 (h_road (by assumption)) (Nat.le_of_ble_eq_true rfl) rfl (ms_rd8 (by assumption)) ?_
  refine W_aload_n d_61_116 rfl (rb_ne (by assumption)) ?_
  refine W_callV d_61_117 o_61 (Or.inl k_4_63) (by omega) (x_62 hr (n := n) (by simp [u3_ap, va_up, bcA_ap _ _ _ hne, hn]) hn12) rfl (mrecv_of (h_road (by assumption)) o_62.symm) rfl (Nat.le_of_ble_eq_true rfl) ?_
  refine W_ret d_61_120 rt_61 ?_
  refine ⟨rfl, ?_⟩
  congr 4
  funext r' a b
  simp only [ftA_ap, u3_ap, va_up, va_cpy, bcA_ap _ _ _ hne, bkA]
  by_cases hr' : r' = r
  · subst hr'
    have hne' := hne
    by_cases h12 : a = 12
    · subst h12
      by_cases hb : b < 6
      · have : b = 0 ∨ b = 1 ∨ b = 2 ∨ b = 3 ∨ b = 4 ∨ b = 5 := by omega
        rcases this with rfl | rfl | rfl | rfl | rfl | rfl <;> simp [vuA, va_cpy, bcA_ap _ _ _ hne, ftA_ap, u3_ap, hne]
      · have : ¬ b = 0 ∧ ¬ b = 1 ∧ ¬ b = 2 ∧ ¬ b = 3 ∧ ¬ b = 4 ∧ ¬ b = 5 ∧ ¬ b < 5 := by omega
        simp [vuA, va_cpy, bcA_ap _ _ _ hne, ftA_ap, u3_ap, hne, this]
    · by_cases h9 : a = 9
      · subst h9; by_cases hb : b < 6 <;> simp [vuA, va_cpy, bcA_ap _ _ _ hne, ftA_ap, u3_ap, hne, hb]
      · by_cases h10 : a = 10
        · subst h10; by_cases hb : b < 6 <;> simp [vuA, va_cpy, bcA_ap _ _ _ hne, ftA_ap, u3_ap, hne, hb]
        · by_cases h11 : a = 11
          · subst h11; by_cases hb : b < 6 <;> simp [vuA, va_cpy, bcA_ap _ _ _ hne, ftA_ap, u3_ap, hne, hb]
          · by_cases h7 : a = 7
            · subst h7; simp [vuA, va_cpy, bcA_ap _ _ _ hne, ftA_ap, u3_ap, hne]
            · by_cases h8 : a = 8
              · subst h8; simp [vuA, va_cpy, bcA_ap _ _ _ hne, ftA_ap, u3_ap, hne]
              · simp [vuA, va_cpy, bcA_ap _ _ _ hne, ftA_ap, u3_ap, h12, h9, h10, h11, h7, h8, hne]
  · simp [vuA, va_cpy, bcA_ap _ _ _ hne, ftA_ap, u3_ap, hr']
