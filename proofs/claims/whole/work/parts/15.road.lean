/-! ROAD: the plain methods and loops (wip/whole/gen15.py) -/
theorem x_56 {d : Nat} {g : mG} {N : Nat} {A T K : Nat → tR} {B : tR} {E : Nat → Int32} {l : Int64} {G : tR} {Qm : Nat → mC} {r : Nat} (hr : r < 3) {v : Int32} : Ex d 56 [.ref (rb r), .int v] (N, H3 g (cc A T K B E l G) Qm) (some (.int (bI (decide (0 ≤ v ∧ v < A r 12 0))))) (N, H3 g (cc A T K B E l G) Qm) := by
  refine Ex.of ?_
  show Wp _ 56 0 [.ref (rb r), .int v] [] _ _
  refine W_iload_n d_56_0 rfl ?_
  refine W_if_lt (tgt := 16) d_56_1 (by decide) (fun h1 => ?_) (fun h1 => ?_)
  · refine W_iconst d_56_16 (v := 0) (by decide) ?_
    refine W_iret d_56_17 rt_56 rfl ?_
    first | exact ⟨congrArg (fun z => some (Value.int z)) (bI_1 (by simp only [Int32.lt_iff_toInt_lt, Int32.le_iff_toInt_le, show (0 : Int32).toInt = 0 from rfl] at *; omega)), rfl⟩ | exact ⟨congrArg (fun z => some (Value.int z)) (bI_0 (by simp only [Int32.lt_iff_toInt_lt, Int32.le_iff_toInt_le, show (0 : Int32).toInt = 0 from rfl] at *; omega)), rfl⟩
  · refine W_iload_n d_56_4 rfl ?_
    refine W_aload_n d_56_5 rfl (rb_ne (by assumption)) ?_
    refine W_getf d_56_6 o_56 k_4_37 (h_road (by assumption)) rfl ?_
    refine W_icmp_ge (tgt := 16) d_56_9 (by decide) (fun h9 => ?_) (fun h9 => ?_)
    · refine W_iconst d_56_16 (v := 0) (by decide) ?_
      refine W_iret d_56_17 rt_56 rfl ?_
      first | exact ⟨congrArg (fun z => some (Value.int z)) (bI_1 (by simp only [Int32.lt_iff_toInt_lt, Int32.le_iff_toInt_le, show (0 : Int32).toInt = 0 from rfl] at *; omega)), rfl⟩ | exact ⟨congrArg (fun z => some (Value.int z)) (bI_0 (by simp only [Int32.lt_iff_toInt_lt, Int32.le_iff_toInt_le, show (0 : Int32).toInt = 0 from rfl] at *; omega)), rfl⟩
    · refine W_iconst d_56_12 (v := 1) (by decide) ?_
      refine W_goto (tgt := 17) d_56_13 (by decide) ?_
      refine W_iret d_56_17 rt_56 rfl ?_
      first | exact ⟨congrArg (fun z => some (Value.int z)) (bI_1 (by simp only [Int32.lt_iff_toInt_lt, Int32.le_iff_toInt_le, show (0 : Int32).toInt = 0 from rfl] at *; omega)), rfl⟩ | exact ⟨congrArg (fun z => some (Value.int z)) (bI_0 (by simp only [Int32.lt_iff_toInt_lt, Int32.le_iff_toInt_le, show (0 : Int32).toInt = 0 from rfl] at *; omega)), rfl⟩
theorem x_57 {d : Nat} {g : mG} {N : Nat} {A T K : Nat → tR} {B : tR} {E : Nat → Int32} {l : Int64} {G : tR} {Qm : Nat → mC} {r : Nat} (hr : r < 3) {v : Int32} : Ex d 57 [.ref (rb r), .int v] (N, H3 g (cc A T K B E l G) Qm) (some (.int (bI (decide (0 ≤ v ∧ v < A r 12 1))))) (N, H3 g (cc A T K B E l G) Qm) := by
  refine Ex.of ?_
  show Wp _ 57 0 [.ref (rb r), .int v] [] _ _
  refine W_iload_n d_57_0 rfl ?_
  refine W_if_lt (tgt := 16) d_57_1 (by decide) (fun h1 => ?_) (fun h1 => ?_)
  · refine W_iconst d_57_16 (v := 0) (by decide) ?_
    refine W_iret d_57_17 rt_57 rfl ?_
    first | exact ⟨congrArg (fun z => some (Value.int z)) (bI_1 (by simp only [Int32.lt_iff_toInt_lt, Int32.le_iff_toInt_le, show (0 : Int32).toInt = 0 from rfl] at *; omega)), rfl⟩ | exact ⟨congrArg (fun z => some (Value.int z)) (bI_0 (by simp only [Int32.lt_iff_toInt_lt, Int32.le_iff_toInt_le, show (0 : Int32).toInt = 0 from rfl] at *; omega)), rfl⟩
  · refine W_iload_n d_57_4 rfl ?_
    refine W_aload_n d_57_5 rfl (rb_ne (by assumption)) ?_
    refine W_getf d_57_6 o_57 k_4_40 (h_road (by assumption)) rfl ?_
    refine W_icmp_ge (tgt := 16) d_57_9 (by decide) (fun h9 => ?_) (fun h9 => ?_)
    · refine W_iconst d_57_16 (v := 0) (by decide) ?_
      refine W_iret d_57_17 rt_57 rfl ?_
      first | exact ⟨congrArg (fun z => some (Value.int z)) (bI_1 (by simp only [Int32.lt_iff_toInt_lt, Int32.le_iff_toInt_le, show (0 : Int32).toInt = 0 from rfl] at *; omega)), rfl⟩ | exact ⟨congrArg (fun z => some (Value.int z)) (bI_0 (by simp only [Int32.lt_iff_toInt_lt, Int32.le_iff_toInt_le, show (0 : Int32).toInt = 0 from rfl] at *; omega)), rfl⟩
    · refine W_iconst d_57_12 (v := 1) (by decide) ?_
      refine W_goto (tgt := 17) d_57_13 (by decide) ?_
      refine W_iret d_57_17 rt_57 rfl ?_
      first | exact ⟨congrArg (fun z => some (Value.int z)) (bI_1 (by simp only [Int32.lt_iff_toInt_lt, Int32.le_iff_toInt_le, show (0 : Int32).toInt = 0 from rfl] at *; omega)), rfl⟩ | exact ⟨congrArg (fun z => some (Value.int z)) (bI_0 (by simp only [Int32.lt_iff_toInt_lt, Int32.le_iff_toInt_le, show (0 : Int32).toInt = 0 from rfl] at *; omega)), rfl⟩
theorem x_58f {d : Nat} {g : mG} {N : Nat} {A T K : Nat → tR} {B : tR} {E : Nat → Int32} {l : Int64} {G : tR} {Qm : Nat → mC} {r : Nat} (hr : r < 3) {k m a : Int32} (hn : A r 12 0 = nI 12) (hd : 1 ≤ d) : Ex d 58 [.ref (rb r), .int k, .int m, .int a] (N, H3 g (cc A T K B E l G) Qm) (some (.int (-4))) (N, H3 g (cc A T K B E l G) Qm) := by
  refine Ex.of ?_
  show Wp _ 58 0 [.ref (rb r), .int k, .int m, .int a] [] _ _
  refine W_aload_n d_58_0 rfl (rb_ne (by assumption)) ?_
  refine W_getf d_58_1 o_58 k_4_37 (h_road (by assumption)) rfl ?_
  rw [hn]
  refine W_aload_n d_58_4 rfl (rb_ne (by assumption)) ?_
  refine W_getf d_58_5 o_58 k_4_11 (h_road (by assumption)) rfl ?_
  refine W_alen (n := 12) (v := 12) d_58_8 ((congrArg mlen (h_owners (by assumption))).trans rfl) (by decide) ?_
  refine W_icmp_lt (tgt := 15) d_58_9 (by decide) (fun h9 => absurd h9 (nI_nlt (a := 12) (b := 12) (Nat.le_refl _) (by decide))) (fun h9 => ?_)
  refine W_bipush d_58_12 (v := (-4)) (by decide) ?_
  refine W_iret d_58_14 rt_58 rfl ?_
  exact ⟨rfl, rfl⟩
theorem x_58 {d : Nat} {g : mG} {N : Nat} {A T K : Nat → tR} {B : tR} {E : Nat → Int32} {l : Int64} {G : tR} {Qm : Nat → mC} {r : Nat} (hr : r < 3) {k m a : Int32} {n : Nat} (hn : A r 12 0 = nI n) (hn12 : n < 12) (hd : 1 ≤ d) : Ex d 58 [.ref (rb r), .int k, .int m, .int a] (N, H3 g (cc A T K B E l G) Qm) (some (.int (nI n))) (N, H3 g (cc (u3 (ow0 A r n k m a) r 12 0 (nI n + 1)) T K B E l G) Qm) := by
  refine Ex.of ?_
  show Wp _ 58 0 [.ref (rb r), .int k, .int m, .int a] [] _ _
  refine W_aload_n d_58_0 rfl (rb_ne (by assumption)) ?_
  refine W_getf d_58_1 o_58 k_4_37 (h_road (by assumption)) rfl ?_
  rw [hn]
  refine W_aload_n d_58_4 rfl (rb_ne (by assumption)) ?_
  refine W_getf d_58_5 o_58 k_4_11 (h_road (by assumption)) rfl ?_
  refine W_alen (n := 12) (v := 12) d_58_8 ((congrArg mlen (h_owners (by assumption))).trans rfl) (by decide) ?_
  refine W_icmp_lt (tgt := 15) d_58_9 (by decide) (fun h9 => ?_) (fun h9 => absurd (nI_lt (b := 12) hn12 (by decide)) h9)
  refine W_aload_n d_58_15 rfl (rb_ne (by assumption)) ?_
  refine W_getf d_58_16 o_58 k_4_11 (h_road (by assumption)) rfl ?_
  refine W_aload_n d_58_19 rfl (rb_ne (by assumption)) ?_
  refine W_getf d_58_20 o_58 k_4_37 (h_road (by assumption)) rfl ?_
  rw [hn]
  refine W_aald d_58_23 (h_owners (by assumption)) (vp_in_nI (by omega) (by decide)) (owa_v (by omega)) ?_
  refine W_iload_n d_58_24 rfl ?_
  refine W_iload_n d_58_25 rfl ?_
  refine W_iload_n d_58_26 rfl ?_
  refine W_callV d_58_27 o_58 (Or.inl k_4_43) (by omega) (x_26 (by assumption) (by assumption)) rfl (mrecv_of (h_owner (by assumption) (by assumption)) o_26.symm) rfl (Nat.le_of_ble_eq_true rfl) ?_
  refine W_aload_n d_58_30 rfl (rb_ne (by assumption)) ?_
  refine W_dup d_58_31 rfl ?_
  refine W_getf d_58_32 o_58 k_4_37 (h_road (by assumption)) rfl ?_
  rw [show (ow0 A r n k m a) r 12 0 = nI n from by simp [ow0, u3_ap, hn]]
  refine W_iconst d_58_35 (v := 1) (by decide) ?_
  refine W_iadd d_58_36 ?_
  refine W_putf d_58_37 o_58 k_4_37 (h_road (by assumption)) (Nat.le_of_ble_eq_true rfl) rfl (ms_rd1 (by assumption)) ?_
  refine W_aload_n d_58_40 rfl (rb_ne (by assumption)) ?_
  refine W_getf d_58_41 o_58 k_4_37 (h_road (by assumption)) rfl ?_
  rw [show (u3 (ow0 A r n k m a) r 12 0 (nI n + 1)) r 12 0 = nI n + 1 from by simp [u3_ap]]
  refine W_iconst d_58_44 (v := 1) (by decide) ?_
  refine W_isub d_58_45 ?_
  refine W_iret d_58_46 rt_58 rfl ?_
  refine ⟨?_, rfl⟩
  rw [← nI_succ, nI_pred]
theorem x_59f {d : Nat} {g : mG} {N : Nat} {A T K : Nat → tR} {B : tR} {E : Nat → Int32} {l : Int64} {G : tR} {Qm : Nat → mC} {r : Nat} (hr : r < 3) {a t : Int32} (hn : A r 12 1 = nI 6) : Ex d 59 [.ref (rb r), .int a, .int t] (N, H3 g (cc A T K B E l G) Qm) (some (.int (-4))) (N, H3 g (cc A T K B E l G) Qm) := by
  refine Ex.of ?_
  show Wp _ 59 0 [.ref (rb r), .int a, .int t] [] _ _
  refine W_aload_n d_59_0 rfl (rb_ne (by assumption)) ?_
  refine W_getf d_59_1 o_59 k_4_40 (h_road (by assumption)) rfl ?_
  rw [hn]
  refine W_aload_n d_59_4 rfl (rb_ne (by assumption)) ?_
  refine W_getf d_59_5 o_59 k_4_21 (h_road (by assumption)) rfl ?_
  refine W_alen (n := 6) (v := 6) d_59_8 ((congrArg mlen (h_pho (by assumption))).trans rfl) (by decide) ?_
  refine W_icmp_lt (tgt := 15) d_59_9 (by decide) (fun h9 => absurd h9 (nI_nlt (a := 6) (b := 6) (Nat.le_refl _) (by decide))) (fun h9 => ?_)
  refine W_bipush d_59_12 (v := (-4)) (by decide) ?_
  refine W_iret d_59_14 rt_59 rfl ?_
  exact ⟨rfl, rfl⟩
def apA (A : Nat → tR) (r n : Nat) (a t : Int32) : Nat → tR := u3 (u3 (u3 A r 10 n a) r 11 n t) r 12 1 (nI n + 1)
theorem x_59 {d : Nat} {g : mG} {N : Nat} {A T K : Nat → tR} {B : tR} {E : Nat → Int32} {l : Int64} {G : tR} {Qm : Nat → mC} {r : Nat} (hr : r < 3) {a t : Int32} {n : Nat} (hn : A r 12 1 = nI n) (hn6 : n < 6) : Ex d 59 [.ref (rb r), .int a, .int t] (N, H3 g (cc A T K B E l G) Qm) (some (.int (nI (n + 1)))) (N, H3 g (cc (apA A r n a t) T K B E l G) Qm) := by
  refine Ex.of ?_
  show Wp _ 59 0 [.ref (rb r), .int a, .int t] [] _ _
  refine W_aload_n d_59_0 rfl (rb_ne (by assumption)) ?_
  refine W_getf d_59_1 o_59 k_4_40 (h_road (by assumption)) rfl ?_
  rw [hn]
  refine W_aload_n d_59_4 rfl (rb_ne (by assumption)) ?_
  refine W_getf d_59_5 o_59 k_4_21 (h_road (by assumption)) rfl ?_
  refine W_alen (n := 6) (v := 6) d_59_8 ((congrArg mlen (h_pho (by assumption))).trans rfl) (by decide) ?_
  refine W_icmp_lt (tgt := 15) d_59_9 (by decide) (fun h9 => ?_) (fun h9 => absurd (nI_lt (b := 6) hn6 (by decide)) h9)
  refine W_aload_n d_59_15 rfl (rb_ne (by assumption)) ?_
  refine W_getf d_59_16 o_59 k_4_21 (h_road (by assumption)) rfl ?_
  refine W_aload_n d_59_19 rfl (rb_ne (by assumption)) ?_
  refine W_getf d_59_20 o_59 k_4_40 (h_road (by assumption)) rfl ?_
  rw [hn]
  refine W_iload_n d_59_23 rfl ?_
  
  refine W_iast d_59_24 (h_pho (by assumption)) (vp_in_nI (by omega) (by decide)) (ms_phoU (by assumption) (nI_clamp (by omega))) ?_
  refine W_aload_n d_59_25 rfl (rb_ne (by assumption)) ?_
  refine W_getf d_59_26 o_59 k_4_24 (h_road (by assumption)) rfl ?_
  refine W_aload_n d_59_29 rfl (rb_ne (by assumption)) ?_
  refine W_getf d_59_30 o_59 k_4_40 (h_road (by assumption)) rfl ?_
  rw [show (u3 A r 10 n a) r 12 1 = nI n from by simp [u3_ap, hn]]
  refine W_iload_n d_59_33 rfl ?_
  refine W_iast d_59_34 (h_psi (by assumption)) (vp_in_nI (by omega) (by decide)) (ms_psiU (by assumption) (nI_clamp (by omega))) ?_
  refine W_aload_n d_59_35 rfl (rb_ne (by assumption)) ?_
  refine W_dup d_59_36 rfl ?_
  refine W_getf d_59_37 o_59 k_4_40 (h_road (by assumption)) rfl ?_
  rw [show (u3 (u3 A r 10 n a) r 11 n t) r 12 1 = nI n from by simp [u3_ap, hn]]
  refine W_iconst d_59_40 (v := 1) (by decide) ?_
  refine W_iadd d_59_41 ?_
  refine W_putf d_59_42 o_59 k_4_40 (h_road (by assumption)) (Nat.le_of_ble_eq_true rfl) rfl (ms_rd5 (by assumption)) ?_
  refine W_aload_n d_59_45 rfl (rb_ne (by assumption)) ?_
  refine W_getf d_59_46 o_59 k_4_40 (h_road (by assumption)) rfl ?_
  rw [show (u3 (u3 (u3 A r 10 n a) r 11 n t) r 12 1 (nI n + 1)) r 12 1 = nI n + 1 from by simp [u3_ap]]
  refine W_iret d_59_49 rt_59 rfl ?_
  exact ⟨by rw [nI_succ], rfl⟩
def fcs (G : tR) (r : Nat) (h w m p q c : Int32) : tR := u2 (u2 (u2 (u2 (u2 (u2 G r 0 h) r 1 w) r 2 m) r 3 p) r 4 q) r 5 c
theorem x_69 {d : Nat} {g : mG} {N : Nat} {A T K : Nat → tR} {B : tR} {E : Nat → Int32} {l : Int64} {G : tR} {Qm : Nat → mC} {r : Nat} (hr : r < 3) {ga mo hp wl : Int32} : Ex d 69 [.ref (rb r), .int ga, .int mo, .int hp, .int wl] (N, H3 g (cc A T K B E l G) Qm) none (N, H3 g (cc A T K B E l (fcs G r (A r 12 2) wl mo hp ga (A r 12 1))) Qm) := by
  refine Ex.of ?_
  show Wp _ 69 0 [.ref (rb r), .int ga, .int mo, .int hp, .int wl] [] _ _
  refine W_aload_n d_69_0 rfl (rb_ne (by assumption)) ?_
  refine W_getf d_69_1 o_69 k_4_33 (h_road (by assumption)) rfl ?_
  refine W_iconst d_69_4 (v := 0) (by decide) ?_
  refine W_aload_n d_69_5 rfl (rb_ne (by assumption)) ?_
  refine W_getf d_69_6 o_69 k_4_57 (h_road (by assumption)) rfl ?_
  refine W_iast d_69_9 (h_facts (by assumption)) (vp_in_nI (n := 0) (by decide) (by decide)) (ms_factsU (by assumption) (show (0 : Int32).toNatClampNeg = 0 from rfl)) ?_
  refine W_aload_n d_69_10 rfl (rb_ne (by assumption)) ?_
  refine W_getf d_69_11 o_69 k_4_33 (h_road (by assumption)) rfl ?_
  refine W_iconst d_69_14 (v := 1) (by decide) ?_
  refine W_iload d_69_15 rfl ?_
  refine W_iast d_69_17 (h_facts (by assumption)) (vp_in_nI (n := 1) (by decide) (by decide)) (ms_factsU (by assumption) (show (1 : Int32).toNatClampNeg = 1 from rfl)) ?_
  refine W_aload_n d_69_18 rfl (rb_ne (by assumption)) ?_
  refine W_getf d_69_19 o_69 k_4_33 (h_road (by assumption)) rfl ?_
  refine W_iconst d_69_22 (v := 2) (by decide) ?_
  refine W_iload_n d_69_23 rfl ?_
  refine W_iast d_69_24 (h_facts (by assumption)) (vp_in_nI (n := 2) (by decide) (by decide)) (ms_factsU (by assumption) (show (2 : Int32).toNatClampNeg = 2 from rfl)) ?_
  refine W_aload_n d_69_25 rfl (rb_ne (by assumption)) ?_
  refine W_getf d_69_26 o_69 k_4_33 (h_road (by assumption)) rfl ?_
  refine W_iconst d_69_29 (v := 3) (by decide) ?_
  refine W_iload_n d_69_30 rfl ?_
  refine W_iast d_69_31 (h_facts (by assumption)) (vp_in_nI (n := 3) (by decide) (by decide)) (ms_factsU (by assumption) (show (3 : Int32).toNatClampNeg = 3 from rfl)) ?_
  refine W_aload_n d_69_32 rfl (rb_ne (by assumption)) ?_
  refine W_getf d_69_33 o_69 k_4_33 (h_road (by assumption)) rfl ?_
  refine W_iconst d_69_36 (v := 4) (by decide) ?_
  refine W_iload_n d_69_37 rfl ?_
  refine W_iast d_69_38 (h_facts (by assumption)) (vp_in_nI (n := 4) (by decide) (by decide)) (ms_factsU (by assumption) (show (4 : Int32).toNatClampNeg = 4 from rfl)) ?_
  refine W_aload_n d_69_39 rfl (rb_ne (by assumption)) ?_
  refine W_getf d_69_40 o_69 k_4_33 (h_road (by assumption)) rfl ?_
  refine W_iconst d_69_43 (v := 5) (by decide) ?_
  refine W_aload_n d_69_44 rfl (rb_ne (by assumption)) ?_
  refine W_getf d_69_45 o_69 k_4_40 (h_road (by assumption)) rfl ?_
  refine W_iast d_69_48 (h_facts (by assumption)) (vp_in_nI (n := 5) (by decide) (by decide)) (ms_factsU (by assumption) (show (5 : Int32).toNatClampNeg = 5 from rfl)) ?_
  refine W_ret d_69_49 rt_69 ?_
  exact ⟨rfl, rfl⟩
def ftA (A : Nat → tR) (r : Nat) : Nat → Nat → tR
  | 0 => A
  | i + 1 => u3 (u3 (ftA A r i) r 7 i 0) r 8 i 0
theorem ftA_ap (A : Nat → tR) (r i r' a b : Nat) : ftA A r i r' a b = if r' = r ∧ (a = 7 ∨ a = 8) ∧ b < i then 0 else A r' a b := by
  induction i with
  | zero => simp [ftA]
  | succ i ih =>
    simp only [ftA, u3_ap, ih]
    repeat' split
    all_goals first | rfl | (exfalso; omega)
theorem lp_62 {d : Nat} {g : mG} {N : Nat} {A T K : Nat → tR} {B : tR} {E : Nat → Int32} {l : Int64} {G : tR} {Qm : Nat → mC} {r : Nat} (hr : r < 3) {n : Nat} (hn : A r 12 0 = nI n) (hn12 : n ≤ 12) {Q : Option Value → mM → Prop} (kk : Q none (N, H3 g (cc (ftA A r n) T K B E l G) Qm)) : ∀ k i, i + k = n → Wp d 62 7 [.ref (rb r), .int (nI i)] [] (N, H3 g (cc (ftA A r i) T K B E l G) Qm) Q := by
  intro k
  induction k with
  | zero =>
    intro i hi
    obtain rfl : i = n := by omega
    have hc : (ftA A r i) r 12 0 = nI i := by rw [ftA_ap, if_neg (by omega), hn]
    refine W_iload_n d_62_7 rfl ?_
    refine W_aload_n d_62_8 rfl (rb_ne (by assumption)) ?_
    refine W_getf d_62_9 o_62 k_4_37 (h_road (by assumption)) rfl ?_
    rw [hc]
    refine W_icmp_ge (tgt := 41) d_62_12 (by decide) (fun h12 => ?_) (fun h12 => absurd (nI_le (a := i) (b := i) (by omega) (by omega)) h12)
    refine W_ret d_62_41 rt_62 ?_
    exact kk
  | succ k ih =>
    intro i hi
    have hc : (ftA A r i) r 12 0 = nI n := by rw [ftA_ap, if_neg (by omega), hn]
    refine W_iload_n d_62_7 rfl ?_
    refine W_aload_n d_62_8 rfl (rb_ne (by assumption)) ?_
    refine W_getf d_62_9 o_62 k_4_37 (h_road (by assumption)) rfl ?_
    rw [hc]
    refine W_icmp_ge (tgt := 41) d_62_12 (by decide) (fun h12 => absurd h12 (nI_ge (a := i) (b := n) (by omega) (by omega))) (fun h12 => ?_)
    have hj : i < 12 := by omega
    refine W_aload_n d_62_15 rfl (rb_ne (by assumption)) ?_
    refine W_getf d_62_16 o_62 k_4_11 (h_road (by assumption)) rfl ?_
    refine W_iload_n d_62_19 rfl ?_
    refine W_aald d_62_20 (h_owners (by assumption)) (vp_in_nI (by omega) (by decide)) (owa_v (by omega)) ?_
    refine W_iconst d_62_21 (v := 0) (by decide) ?_
    refine W_putf d_62_22 o_62 k_4_69 (h_owner (by assumption) (by assumption)) (Nat.le_of_ble_eq_true rfl) rfl (ms_ow7 (by assumption) (by assumption)) ?_
    refine W_aload_n d_62_25 rfl (rb_ne (by assumption)) ?_
    refine W_getf d_62_26 o_62 k_4_11 (h_road (by assumption)) rfl ?_
    refine W_iload_n d_62_29 rfl ?_
    refine W_aald d_62_30 (h_owners (by assumption)) (vp_in_nI (by omega) (by decide)) (owa_v (by omega)) ?_
    refine W_iconst d_62_31 (v := 0) (by decide) ?_
    refine W_putf d_62_32 o_62 k_4_72 (h_owner (by assumption) (by assumption)) (Nat.le_of_ble_eq_true rfl) rfl (ms_ow8 (by assumption) (by assumption)) ?_
    refine W_iinc (v := 1) d_62_35 rfl (by decide) rfl ?_
    refine W_goto (tgt := 7) d_62_38 (by decide) ?_
    have h9 := ih (i + 1) (by omega)
    rw [nI_succ] at h9
    exact h9
theorem x_62 {d : Nat} {g : mG} {N : Nat} {A T K : Nat → tR} {B : tR} {E : Nat → Int32} {l : Int64} {G : tR} {Qm : Nat → mC} {r : Nat} (hr : r < 3) {n : Nat} (hn : A r 12 0 = nI n) (hn12 : n ≤ 12) : Ex d 62 [.ref (rb r)] (N, H3 g (cc A T K B E l G) Qm) none (N, H3 g (cc (ftA (u3 A r 12 5 0) r n) T K B E l G) Qm) := by
  refine Ex.of ?_
  show Wp _ 62 0 [.ref (rb r), .null] [] _ _
  refine W_aload_n d_62_0 rfl (rb_ne (by assumption)) ?_
  refine W_iconst d_62_1 (v := 0) (by decide) ?_
  refine W_putf d_62_2 o_62 k_4_66 (h_road (by assumption)) (Nat.le_of_ble_eq_true rfl) rfl (ms_rd9 (by assumption)) ?_
  refine W_iconst d_62_5 (v := 0) (by decide) ?_
  refine W_istore_n d_62_6 rfl ?_
  exact lp_62 hr (A := u3 A r 12 5 0) (n := n) (by simp [u3_ap, hn]) hn12 (And.intro rfl rfl) n 0 (by omega)
def sm7 (R : tR) : Nat → Int32
  | 0 => 0
  | i + 1 => sm7 R i + R 7 i
theorem lp_71 {d : Nat} {g : mG} {N : Nat} {A T K : Nat → tR} {B : tR} {E : Nat → Int32} {l : Int64} {G : tR} {Qm : Nat → mC} {r : Nat} (hr : r < 3) {n : Nat} (hn : A r 12 0 = nI n) (hn12 : n ≤ 12) {Q : Option Value → mM → Prop} (kk : Q (some (.int (sm7 (A r) n))) (N, H3 g (cc A T K B E l G) Qm)) : ∀ k i, i + k = n → Wp d 71 4 [.ref (rb r), .int (sm7 (A r) i), .int (nI i)] [] (N, H3 g (cc A T K B E l G) Qm) Q := by
  intro k
  induction k with
  | zero =>
    intro i hi
    obtain rfl : i = n := by omega
    skip
    refine W_iload_n d_71_4 rfl ?_
    refine W_aload_n d_71_5 rfl (rb_ne (by assumption)) ?_
    refine W_getf d_71_6 o_71 k_4_37 (h_road (by assumption)) rfl ?_
    rw [hn]
    refine W_icmp_ge (tgt := 30) d_71_9 (by decide) (fun h9 => ?_) (fun h9 => absurd (nI_le (a := i) (b := i) (by omega) (by omega)) h9)
    refine W_iload_n d_71_30 rfl ?_
    refine W_iret d_71_31 rt_71 rfl ?_
    exact kk
  | succ k ih =>
    intro i hi
    have hj : i < 12 := by omega
    refine W_iload_n d_71_4 rfl ?_
    refine W_aload_n d_71_5 rfl (rb_ne (by assumption)) ?_
    refine W_getf d_71_6 o_71 k_4_37 (h_road (by assumption)) rfl ?_
    rw [hn]
    refine W_icmp_ge (tgt := 30) d_71_9 (by decide) (fun h9 => absurd h9 (nI_ge (a := i) (b := n) (by omega) (by omega))) (fun h9 => ?_)
    refine W_iload_n d_71_12 rfl ?_
    refine W_aload_n d_71_13 rfl (rb_ne (by assumption)) ?_
    refine W_getf d_71_14 o_71 k_4_11 (h_road (by assumption)) rfl ?_
    refine W_iload_n d_71_17 rfl ?_
    refine W_aald d_71_18 (h_owners (by assumption)) (vp_in_nI (by omega) (by decide)) (owa_v (by omega)) ?_
    refine W_getf d_71_19 o_71 k_4_69 (h_owner (by assumption) (by assumption)) rfl ?_
    refine W_iadd d_71_22 ?_
    refine W_istore_n d_71_23 rfl ?_
    refine W_iinc (v := 1) d_71_24 rfl (by decide) rfl ?_
    refine W_goto (tgt := 4) d_71_27 (by decide) ?_
    have h9 := ih (i + 1) (by omega)
    rw [nI_succ] at h9
    exact h9
theorem x_71 {d : Nat} {g : mG} {N : Nat} {A T K : Nat → tR} {B : tR} {E : Nat → Int32} {l : Int64} {G : tR} {Qm : Nat → mC} {r : Nat} (hr : r < 3) {n : Nat} (hn : A r 12 0 = nI n) (hn12 : n ≤ 12) : Ex d 71 [.ref (rb r)] (N, H3 g (cc A T K B E l G) Qm) (some (.int (sm7 (A r) n))) (N, H3 g (cc A T K B E l G) Qm) := by
  refine Ex.of ?_
  show Wp _ 71 0 [.ref (rb r), .null, .null] [] _ _
  refine W_iconst d_71_0 (v := 0) (by decide) ?_
  refine W_istore_n d_71_1 rfl ?_
  refine W_iconst d_71_2 (v := 0) (by decide) ?_
  refine W_istore_n d_71_3 rfl ?_
  exact lp_71 hr hn hn12 (And.intro rfl rfl) n 0 (by omega)
def sm8 (R : tR) : Nat → Int32
  | 0 => 0
  | i + 1 => sm8 R i + R 8 i
theorem lp_72 {d : Nat} {g : mG} {N : Nat} {A T K : Nat → tR} {B : tR} {E : Nat → Int32} {l : Int64} {G : tR} {Qm : Nat → mC} {r : Nat} (hr : r < 3) {n : Nat} (hn : A r 12 0 = nI n) (hn12 : n ≤ 12) {Q : Option Value → mM → Prop} (kk : Q (some (.int (sm8 (A r) n))) (N, H3 g (cc A T K B E l G) Qm)) : ∀ k i, i + k = n → Wp d 72 4 [.ref (rb r), .int (sm8 (A r) i), .int (nI i)] [] (N, H3 g (cc A T K B E l G) Qm) Q := by
  intro k
  induction k with
  | zero =>
    intro i hi
    obtain rfl : i = n := by omega
    skip
    refine W_iload_n d_72_4 rfl ?_
    refine W_aload_n d_72_5 rfl (rb_ne (by assumption)) ?_
    refine W_getf d_72_6 o_72 k_4_37 (h_road (by assumption)) rfl ?_
    rw [hn]
    refine W_icmp_ge (tgt := 30) d_72_9 (by decide) (fun h9 => ?_) (fun h9 => absurd (nI_le (a := i) (b := i) (by omega) (by omega)) h9)
    refine W_iload_n d_72_30 rfl ?_
    refine W_iret d_72_31 rt_72 rfl ?_
    exact kk
  | succ k ih =>
    intro i hi
    have hj : i < 12 := by omega
    refine W_iload_n d_72_4 rfl ?_
    refine W_aload_n d_72_5 rfl (rb_ne (by assumption)) ?_
    refine W_getf d_72_6 o_72 k_4_37 (h_road (by assumption)) rfl ?_
    rw [hn]
    refine W_icmp_ge (tgt := 30) d_72_9 (by decide) (fun h9 => absurd h9 (nI_ge (a := i) (b := n) (by omega) (by omega))) (fun h9 => ?_)
    refine W_iload_n d_72_12 rfl ?_
    refine W_aload_n d_72_13 rfl (rb_ne (by assumption)) ?_
    refine W_getf d_72_14 o_72 k_4_11 (h_road (by assumption)) rfl ?_
    refine W_iload_n d_72_17 rfl ?_
    refine W_aald d_72_18 (h_owners (by assumption)) (vp_in_nI (by omega) (by decide)) (owa_v (by omega)) ?_
    refine W_getf d_72_19 o_72 k_4_72 (h_owner (by assumption) (by assumption)) rfl ?_
    refine W_iadd d_72_22 ?_
    refine W_istore_n d_72_23 rfl ?_
    refine W_iinc (v := 1) d_72_24 rfl (by decide) rfl ?_
    refine W_goto (tgt := 4) d_72_27 (by decide) ?_
    have h9 := ih (i + 1) (by omega)
    rw [nI_succ] at h9
    exact h9
theorem x_72 {d : Nat} {g : mG} {N : Nat} {A T K : Nat → tR} {B : tR} {E : Nat → Int32} {l : Int64} {G : tR} {Qm : Nat → mC} {r : Nat} (hr : r < 3) {n : Nat} (hn : A r 12 0 = nI n) (hn12 : n ≤ 12) : Ex d 72 [.ref (rb r)] (N, H3 g (cc A T K B E l G) Qm) (some (.int (sm8 (A r) n))) (N, H3 g (cc A T K B E l G) Qm) := by
  refine Ex.of ?_
  show Wp _ 72 0 [.ref (rb r), .null, .null] [] _ _
  refine W_iconst d_72_0 (v := 0) (by decide) ?_
  refine W_istore_n d_72_1 rfl ?_
  refine W_iconst d_72_2 (v := 0) (by decide) ?_
  refine W_istore_n d_72_3 rfl ?_
  exact lp_72 hr hn hn12 (And.intro rfl rfl) n 0 (by omega)
def tpA (A : Nat → tR) (r : Nat) (b : Int32) : Nat → Nat → tR
  | 0 => A
  | i + 1 => u3 (tpA A r b i) r 11 i ((b >>> (nI i &&& 31)) &&& 1)
theorem tpA_ap (A : Nat → tR) (r : Nat) (b : Int32) (i r' a j : Nat) : tpA A r b i r' a j = if r' = r ∧ a = 11 ∧ j < i then ((b >>> (nI j &&& 31)) &&& 1) else A r' a j := by
  induction i with
  | zero => simp [tpA]
  | succ i ih =>
    simp only [tpA, u3_ap, ih]
    by_cases h : r' = r ∧ a = 11 ∧ j = i
    · obtain ⟨rfl, rfl, rfl⟩ := h
      simp
    · rw [if_neg h]
      by_cases h2 : r' = r ∧ a = 11 ∧ j < i
      · rw [if_pos h2, if_pos (by omega)]
      · rw [if_neg h2, if_neg (by omega)]
theorem lp_60 {d : Nat} {g : mG} {N : Nat} {A T K : Nat → tR} {B : tR} {E : Nat → Int32} {l : Int64} {G : tR} {Qm : Nat → mC} {r : Nat} (hr : r < 3) {b : Int32} {n : Nat} (hn : A r 12 1 = nI n) (hn6 : n ≤ 6) {Q : Option Value → mM → Prop} (kk : Q none (N, H3 g (cc (tpA A r b n) T K B E l G) Qm)) : ∀ k i, i + k = n → Wp d 60 2 [.ref (rb r), .int b, .int (nI i)] [] (N, H3 g (cc (tpA A r b i) T K B E l G) Qm) Q := by
  intro k
  induction k with
  | zero =>
    intro i hi
    obtain rfl : i = n := by omega
    have hc : tpA A r b i r 12 1 = nI i := by rw [tpA_ap, if_neg (by omega), hn]
    refine W_iload_n d_60_2 rfl ?_
    refine W_aload_n d_60_3 rfl (rb_ne (by assumption)) ?_
    refine W_getf d_60_4 o_60 k_4_40 (h_road (by assumption)) rfl ?_
    rw [hc]
    refine W_icmp_ge (tgt := 27) d_60_7 (by decide) (fun h7 => ?_) (fun h7 => absurd (nI_le (a := i) (b := i) (by omega) (by omega)) h7)
    refine W_ret d_60_27 rt_60 ?_
    exact kk
  | succ k ih =>
    intro i hi
    have hc : tpA A r b i r 12 1 = nI n := by rw [tpA_ap, if_neg (by omega), hn]
    refine W_iload_n d_60_2 rfl ?_
    refine W_aload_n d_60_3 rfl (rb_ne (by assumption)) ?_
    refine W_getf d_60_4 o_60 k_4_40 (h_road (by assumption)) rfl ?_
    rw [hc]
    refine W_icmp_ge (tgt := 27) d_60_7 (by decide) (fun h7 => absurd h7 (nI_ge (a := i) (b := n) (by omega) (by omega))) (fun h7 => ?_)
    refine W_aload_n d_60_10 rfl (rb_ne (by assumption)) ?_
    refine W_getf d_60_11 o_60 k_4_24 (h_road (by assumption)) rfl ?_
    refine W_iload_n d_60_14 rfl ?_
    refine W_iload_n d_60_15 rfl ?_
    refine W_iload_n d_60_16 rfl ?_
    refine W_ishr d_60_17 ?_
    refine W_iconst d_60_18 (v := 1) (by decide) ?_
    refine W_iand d_60_19 ?_
    refine W_iast d_60_20 (h_psi (by assumption)) (vp_in_nI (by omega) (by decide)) (ms_psiU (by assumption) (nI_clamp (by omega))) ?_
    refine W_iinc (v := 1) d_60_21 rfl (by decide) rfl ?_
    refine W_goto (tgt := 2) d_60_24 (by decide) ?_
    have h9 := ih (i + 1) (by omega)
    rw [nI_succ] at h9
    exact h9
theorem x_60 {d : Nat} {g : mG} {N : Nat} {A T K : Nat → tR} {B : tR} {E : Nat → Int32} {l : Int64} {G : tR} {Qm : Nat → mC} {r : Nat} (hr : r < 3) {b : Int32} {n : Nat} (hn : A r 12 1 = nI n) (hn6 : n ≤ 6) : Ex d 60 [.ref (rb r), .int b] (N, H3 g (cc A T K B E l G) Qm) none (N, H3 g (cc (tpA A r b n) T K B E l G) Qm) := by
  refine Ex.of ?_
  show Wp _ 60 0 [.ref (rb r), .int b, .null] [] _ _
  refine W_iconst d_60_0 (v := 0) (by decide) ?_
  refine W_istore_n d_60_1 rfl ?_
  exact lp_60 hr hn hn6 (And.intro rfl rfl) n 0 (by omega)
