/-! OWNER isOf, SHEET begin, write (wip/whole/gen20.py) -/
def chn : List Int32 → Int32 → Prop
  | [], v => v < 0
  | a :: l, v => ∃ k, k < 6 ∧ v = nI k ∧ a = nI k ∧ chn l ((rot 1).getD k 0)
def kch (k : Nat) : List Int32 := [[0], [1, 0], [2, 0], [3, 1, 0], [4, 2, 0], [5, 0]].getD k []
theorem kch_chn {k : Nat} (h : k < 6) : chn (kch k) (nI k) := by
  have e0 : chn [0] (nI 0) := ⟨0, by decide, rfl, rfl, by show ((rot 1).getD 0 0 : Int32) < 0; decide⟩
  have e1 : chn [1, 0] (nI 1) := ⟨1, by decide, rfl, rfl, e0⟩
  have e2 : chn [2, 0] (nI 2) := ⟨2, by decide, rfl, rfl, e0⟩
  have : k = 0 ∨ k = 1 ∨ k = 2 ∨ k = 3 ∨ k = 4 ∨ k = 5 := by omega
  rcases this with rfl | rfl | rfl | rfl | rfl | rfl
  · exact e0
  · exact e1
  · exact e2
  · exact ⟨3, by decide, rfl, rfl, e1⟩
  · exact ⟨4, by decide, rfl, rfl, e2⟩
  · exact ⟨5, by decide, rfl, rfl, e0⟩
theorem kch_len {k : Nat} (h : k < 6) : 0 + (kch k).length ≤ 6 := by
  have : k = 0 ∨ k = 1 ∨ k = 2 ∨ k = 3 ∨ k = 4 ∨ k = 5 := by omega
  rcases this with rfl | rfl | rfl | rfl | rfl | rfl <;> decide
theorem lp_31 {d : Nat} {g : mG} {N : Nat} {A T K : Nat → tR} {B : tR} {E : Nat → Int32} {l0 : Int64} {G : tR} {Qm : Nat → mC} {r j : Nat} (hr : r < 3) (hj : j < 12) {w : Int32} {Q : Option Value → mM → Prop} : ∀ (ch : List Int32) (i : Nat) (v : Int32), i + ch.length ≤ 6 → chn ch v → Q (some (.int (bI (decide (w ∈ ch))))) (N, H3 g (cc A T K B E l0 G) Qm) → Wp d 31 7 [.ref (rb r + 6 + j), .int w, .int v, .int (nI i)] [] (N, H3 g (cc A T K B E l0 G) Qm) Q := by
  intro ch
  induction ch with
  | nil =>
    intro i v hle hc kk
    have hc : v < 0 := hc
    refine W_iload_n d_31_7 rfl ?_
    refine W_gets d_31_8 o_31 k_2_39 rfl ?_
    refine W_alen (n := 6) (v := 6) d_31_11 rfl (by decide) ?_
    refine W_icmp_ge (tgt := 46) d_31_12 (by decide) (fun h12 => ?_) (fun h12 => ?_)
    · refine W_iconst d_31_46 (v := 0) (by decide) ?_
      refine W_iret d_31_47 rt_31 rfl ?_
      rw [← bI_0 (show ¬ w ∈ ([] : List Int32) by simp)] at kk
      exact kk
    · refine W_iload_n d_31_15 rfl ?_
      refine W_if_lt (tgt := 46) d_31_16 (by decide) (fun h16 => ?_) (fun h16 => absurd hc h16)
      refine W_iconst d_31_46 (v := 0) (by decide) ?_
      refine W_iret d_31_47 rt_31 rfl ?_
      rw [← bI_0 (show ¬ w ∈ ([] : List Int32) by simp)] at kk
      exact kk
  | cons a l ih =>
    intro i v hle hc kk
    obtain ⟨k, hk6, rfl, rfl, hl⟩ := hc
    have hi6 : i < 6 := by
      simp only [List.length_cons] at hle
      omega
    have hl6 : i + 1 + l.length ≤ 6 := by
      simp only [List.length_cons] at hle
      omega
    refine W_iload_n d_31_7 rfl ?_
    refine W_gets d_31_8 o_31 k_2_39 rfl ?_
    refine W_alen (n := 6) (v := 6) d_31_11 rfl (by decide) ?_
    refine W_icmp_ge (tgt := 46) d_31_12 (by decide) (fun h12 => absurd h12 (nI_ge (a := i) (b := 6) hi6 (by decide))) (fun h12 => ?_)
    refine W_iload_n d_31_15 rfl ?_
    refine W_if_lt (tgt := 46) d_31_16 (by decide) (fun h16 => absurd h16 (nI_pos (by omega))) (fun h16 => ?_)
    refine W_iload_n d_31_19 rfl ?_
    refine W_gets d_31_20 o_31 k_2_39 rfl ?_
    refine W_alen (n := 6) (v := 6) d_31_23 rfl (by decide) ?_
    refine W_icmp_ge (tgt := 46) d_31_24 (by decide) (fun h24 => absurd h24 (nI_ge (a := k) (b := 6) hk6 (by decide))) (fun h24 => ?_)
    refine W_iload_n d_31_27 rfl ?_
    refine W_iload_n d_31_28 rfl ?_
    refine W_icmp_ne (tgt := 34) d_31_29 (by decide) (fun h29 => ?_) (fun h29 => ?_)
    · refine W_gets d_31_34 o_31 k_2_39 rfl ?_
      refine W_iload_n d_31_37 rfl ?_
      refine W_iald d_31_38 rfl (by decide) (vp_in_nI (by omega) (by decide)) (show (rot 1).getD (nI k).toNatClampNeg 0 = (rot 1).getD k 0 by rw [nI_clamp (show k < 2 ^ 31 by omega)]) ?_
      refine W_istore_n d_31_39 rfl ?_
      refine W_iinc (v := 1) d_31_40 rfl (by decide) rfl ?_
      refine W_goto (tgt := 7) d_31_43 (by decide) ?_
      rw [show nI i + 1 = nI (i + 1) from (nI_succ i).symm]
      refine ih (i + 1) _ hl6 hl ?_
      rw [show decide (w ∈ nI k :: l) = decide (w ∈ l) from decide_eq_decide.mpr ⟨fun q => (List.mem_cons.mp q).resolve_left (fun e => h29 e.symm), List.mem_cons_of_mem _⟩] at kk
      exact kk
    · refine W_iconst d_31_32 (v := 1) (by decide) ?_
      refine W_iret d_31_33 rt_31 rfl ?_
      rw [← bI_1 (show w ∈ nI k :: l by rw [← h29]; exact List.mem_cons_self ..)] at kk
      exact kk
theorem x_31 {d : Nat} {g : mG} {N : Nat} {A T K : Nat → tR} {B : tR} {E : Nat → Int32} {l : Int64} {G : tR} {Qm : Nat → mC} {r j : Nat} (hr : r < 3) (hj : j < 12) {k : Nat} (hk6 : k < 6) (hk : A r 0 j = nI k) {w : Int32} : Ex d 31 [.ref (rb r + 6 + j), .int w] (N, H3 g (cc A T K B E l G) Qm) (some (.int (bI (decide (w ∈ kch k))))) (N, H3 g (cc A T K B E l G) Qm) := by
  refine Ex.of ?_
  show Wp _ 31 0 [.ref (rb r + 6 + j), .int w, .null, .null] [] _ _
  refine W_aload_n d_31_0 rfl (ow_ne (by assumption) (by assumption)) ?_
  refine W_getf d_31_1 o_31 k_2_9 (h_owner (by assumption) (by assumption)) rfl ?_
  rw [hk]
  refine W_istore_n d_31_4 rfl ?_
  refine W_iconst d_31_5 (v := 0) (by decide) ?_
  refine W_istore_n d_31_6 rfl ?_
  exact lp_31 hr hj _ 0 _ (kch_len hk6) (kch_chn hk6) (And.intro rfl rfl)
def shZ (K : Nat → tR) (s : Nat) : Nat → Nat → tR
  | 0 => K
  | i + 1 => u3 (shZ K s i) s 0 i 0
theorem shZ_ap (K : Nat → tR) (s i s' a j : Nat) : shZ K s i s' a j = if s' = s ∧ a = 0 ∧ j < i then 0 else K s' a j := by
  induction i with
  | zero => simp [shZ]
  | succ i ih =>
    simp only [shZ, u3_ap, ih]
    repeat' split
    all_goals first | rfl | (exfalso; omega)
theorem lp_79 {d : Nat} {g : mG} {N : Nat} {A T K : Nat → tR} {B : tR} {E : Nat → Int32} {l : Int64} {G : tR} {Qm : Nat → mC} {s : Nat} (hs : s < 4) {v m : Int32} {n : Nat} (h40 : n = 40) {Q : Option Value → mM → Prop} (kk : Q none (N, H3 g (cc A T (shZ K s n) B E l G) Qm)) : ∀ k i, i + k = n → Wp d 79 12 [.ref (sb s), .int v, .int m, .int (nI i)] [] (N, H3 g (cc A T (shZ K s i) B E l G) Qm) Q := by
  intro k
  induction k with
  | zero =>
    intro i hi
    obtain rfl : i = n := by omega
    skip
    refine W_iload_n d_79_12 rfl ?_
    refine W_aload_n d_79_13 rfl (sb_ne (by assumption)) ?_
    refine W_getf d_79_14 o_79 k_5_15 (h_sheet (by assumption)) rfl ?_
    refine W_alen (n := 40) (v := 40) d_79_17 ((congrArg mlen (h_row (by assumption))).trans rfl) (by decide) ?_
    first | rw [show (40 : Int32) = nI n from by subst h40; rfl] | rw [show (40 : Int32) = nI i from by subst h40; rfl]
    refine W_icmp_ge (tgt := 34) d_79_18 (by decide) (fun h18 => ?_) (fun h18 => absurd (nI_le (a := i) (b := i) (by omega) (by omega)) h18)
    refine W_ret d_79_34 rt_79 ?_
    exact kk
  | succ k ih =>
    intro i hi
    have hj : i < 40 := by omega
    refine W_iload_n d_79_12 rfl ?_
    refine W_aload_n d_79_13 rfl (sb_ne (by assumption)) ?_
    refine W_getf d_79_14 o_79 k_5_15 (h_sheet (by assumption)) rfl ?_
    refine W_alen (n := 40) (v := 40) d_79_17 ((congrArg mlen (h_row (by assumption))).trans rfl) (by decide) ?_
    first | rw [show (40 : Int32) = nI n from by subst h40; rfl] | rw [show (40 : Int32) = nI i from by subst h40; rfl]
    refine W_icmp_ge (tgt := 34) d_79_18 (by decide) (fun h18 => absurd h18 (nI_ge (a := i) (b := n) (by omega) (by omega))) (fun h18 => ?_)
    refine W_aload_n d_79_21 rfl (sb_ne (by assumption)) ?_
    refine W_getf d_79_22 o_79 k_5_15 (h_sheet (by assumption)) rfl ?_
    refine W_iload_n d_79_25 rfl ?_
    refine W_iconst d_79_26 (v := 0) (by decide) ?_
    refine W_iast d_79_27 (h_row (by assumption)) (vp_in_nI (by omega) (by decide)) (ms_rowU (by assumption) (nI_clamp (by omega))) ?_
    refine W_iinc (v := 1) d_79_28 rfl (by decide) rfl ?_
    refine W_goto (tgt := 12) d_79_31 (by decide) ?_
    have h9 := ih (i + 1) (by omega)
    rw [nI_succ] at h9
    exact h9
theorem x_79 {d : Nat} {g : mG} {N : Nat} {A T K : Nat → tR} {B : tR} {E : Nat → Int32} {l : Int64} {G : tR} {Qm : Nat → mC} {s : Nat} (hs : s < 4) {v m : Int32} : Ex d 79 [.ref (sb s), .int v, .int m] (N, H3 g (cc A T K B E l G) Qm) none (N, H3 g (cc A T (shZ (u3 (u3 K s 1 0 v) s 1 1 m) s 40) B E l G) Qm) := by
  refine Ex.of ?_
  show Wp _ 79 0 [.ref (sb s), .int v, .int m, .null] [] _ _
  refine W_aload_n d_79_0 rfl (sb_ne (by assumption)) ?_
  refine W_iload_n d_79_1 rfl ?_
  refine W_putf d_79_2 o_79 k_5_9 (h_sheet (by assumption)) (Nat.le_of_ble_eq_true rfl) rfl (ms_sh0 (by assumption)) ?_
  refine W_aload_n d_79_5 rfl (sb_ne (by assumption)) ?_
  refine W_iload_n d_79_6 rfl ?_
  refine W_putf d_79_7 o_79 k_5_19 (h_sheet (by assumption)) (Nat.le_of_ble_eq_true rfl) rfl (ms_sh1 (by assumption)) ?_
  refine W_iconst d_79_10 (v := 0) (by decide) ?_
  refine W_istore_n d_79_11 rfl ?_
  exact lp_79 hs rfl (And.intro rfl rfl) 40 0 (by omega)
def shv (t v : Int32) : Int32 := if t = 0 then v.toInt8.toInt32 else if t = 1 then v.toInt16.toInt32 else v
theorem x_82 {d : Nat} {g : mG} {N : Nat} {A T K : Nat → tR} {B : tR} {E : Nat → Int32} {l : Int64} {G : tR} {Qm : Nat → mC} {s : Nat} (hs : s < 4) {i : Nat} (hi : i < 40) {v : Int32} : Ex d 82 [.ref (sb s), .int (nI i), .int v] (N, H3 g (cc A T K B E l G) Qm) none (N, H3 g (cc A T (u3 K s 0 i (shv (K s 1 0) v)) B E l G) Qm) := by
  refine Ex.of ?_
  show Wp _ 82 0 [.ref (sb s), .int (nI i), .int v] [] _ _
  refine W_aload_n d_82_0 rfl (sb_ne (by assumption)) ?_
  refine W_getf d_82_1 o_82 k_5_15 (h_sheet (by assumption)) rfl ?_
  refine W_iload_n d_82_4 rfl ?_
  refine W_aload_n d_82_5 rfl (sb_ne (by assumption)) ?_
  refine W_getf d_82_6 o_82 k_5_9 (h_sheet (by assumption)) rfl ?_
  refine W_if_ne (tgt := 17) d_82_9 (by decide) (fun h9 => ?_) (fun h9 => ?_)
  · refine W_aload_n d_82_17 rfl (sb_ne (by assumption)) ?_
    refine W_getf d_82_18 o_82 k_5_9 (h_sheet (by assumption)) rfl ?_
    refine W_iconst d_82_21 (v := 1) (by decide) ?_
    refine W_icmp_ne (tgt := 30) d_82_22 (by decide) (fun h22 => ?_) (fun h22 => ?_)
    · refine W_iload_n d_82_30 rfl ?_
      refine W_iast d_82_31 (h_row (by assumption)) (vp_in_nI (by omega) (by decide)) (ms_rowU (by assumption) (nI_clamp (by omega))) ?_
      refine W_ret d_82_32 rt_82 ?_
      exact ⟨rfl, congrArg (fun x => (N, H3 g (cc A T (u3 K s 0 i x) B E l G) Qm)) ((if_neg h9).trans (if_neg h22)).symm⟩
    · refine W_iload_n d_82_25 rfl ?_
      refine W_i2s d_82_26 ?_
      refine W_goto (tgt := 31) d_82_27 (by decide) ?_
      refine W_iast d_82_31 (h_row (by assumption)) (vp_in_nI (by omega) (by decide)) (ms_rowU (by assumption) (nI_clamp (by omega))) ?_
      refine W_ret d_82_32 rt_82 ?_
      exact ⟨rfl, congrArg (fun x => (N, H3 g (cc A T (u3 K s 0 i x) B E l G) Qm)) ((if_neg h9).trans (if_pos h22)).symm⟩
  · refine W_iload_n d_82_12 rfl ?_
    refine W_i2b d_82_13 ?_
    refine W_goto (tgt := 31) d_82_14 (by decide) ?_
    refine W_iast d_82_31 (h_row (by assumption)) (vp_in_nI (by omega) (by decide)) (ms_rowU (by assumption) (nI_clamp (by omega))) ?_
    refine W_ret d_82_32 rt_82 ?_
    exact ⟨rfl, congrArg (fun x => (N, H3 g (cc A T (u3 K s 0 i x) B E l G) Qm)) (if_pos h9).symm⟩
