/-! THE CLASS: film .. taken (wip/whole/gen37.py) -/
theorem p_117a {d : Nat} {g : mG} {N : Nat} {A T K : Nat → tR} {B : tR} {E : Nat → Int32} {l : Int64} {G : tR} {Qm : Nat → mC} {r0 r1 : Nat} (e0 : r0 = 0) (e1 : r1 = 1) {v so w : Int32} (hb : ¬ ((0 ≤ v ∧ v ≤ 3) ∧ (-1 ≤ so ∧ so ≤ 2) ∧ (so = -1 ∨ w ≤ 40))) (hd : 4 ≤ d) : Ex d 117 [.ref 0, .int v, .int so, .int w] (N, H3 g (cc A T K B E l G) Qm) (some (.int (-2))) (N, H3 g (cc A T K B E l G) Qm) := by
  refine Ex.of ?_
  show Wp _ 117 0 [.ref 0, .int v, .int so, .int w] [] _ _
  refine W_iload_n d_117_0 rfl ?_
  refine W_callS d_117_1 o_117 k_6_229 (by omega) (x_133 (by omega)) rfl (Nat.le_of_ble_eq_true rfl) ?_
  refine W_if_eq (tgt := 28) d_117_4 (by decide) (fun h4 => ?_) (fun h4 => ?_)
  · refine W_bipush d_117_28 (v := (-2)) (by decide) ?_
    refine W_iret d_117_30 rt_117 rfl ?_
    exact ⟨rfl, rfl⟩
  · refine W_iload_n d_117_7 rfl ?_
    refine W_iconst d_117_8 (v := (-1)) (by decide) ?_
    refine W_icmp_lt (tgt := 28) d_117_9 (by decide) (fun h9 => ?_) (fun h9 => ?_)
    · refine W_bipush d_117_28 (v := (-2)) (by decide) ?_
      refine W_iret d_117_30 rt_117 rfl ?_
      exact ⟨rfl, rfl⟩
    · refine W_iload_n d_117_12 rfl ?_
      refine W_iconst d_117_13 (v := 2) (by decide) ?_
      refine W_icmp_gt (tgt := 28) d_117_14 (by decide) (fun h14 => ?_) (fun h14 => ?_)
      · refine W_bipush d_117_28 (v := (-2)) (by decide) ?_
        refine W_iret d_117_30 rt_117 rfl ?_
        exact ⟨rfl, rfl⟩
      · refine W_iload_n d_117_17 rfl ?_
        refine W_iconst d_117_18 (v := (-1)) (by decide) ?_
        refine W_icmp_eq (tgt := 31) d_117_19 (by decide) (fun h19 => ?_) (fun h19 => ?_)
        · first | exact (hb ⟨bI_t h4, ⟨Int32.not_lt.mp h9, Int32.not_lt.mp h14⟩, Or.inl h19⟩).elim | exact (hb ⟨bI_t h4, ⟨Int32.not_lt.mp h9, Int32.not_lt.mp h14⟩, Or.inr h25⟩).elim
        · refine W_iload_n d_117_22 rfl ?_
          refine W_bipush d_117_23 (v := 40) (by decide) ?_
          refine W_icmp_le (tgt := 31) d_117_25 (by decide) (fun h25 => ?_) (fun h25 => ?_)
          · first | exact (hb ⟨bI_t h4, ⟨Int32.not_lt.mp h9, Int32.not_lt.mp h14⟩, Or.inl h19⟩).elim | exact (hb ⟨bI_t h4, ⟨Int32.not_lt.mp h9, Int32.not_lt.mp h14⟩, Or.inr h25⟩).elim
          · refine W_bipush d_117_28 (v := (-2)) (by decide) ?_
            refine W_iret d_117_30 rt_117 rfl ?_
            exact ⟨rfl, rfl⟩
theorem p_117b {d : Nat} {g : mG} {N : Nat} {A T K : Nat → tR} {B : tR} {E : Nat → Int32} {l : Int64} {G : tR} {Qm : Nat → mC} {r0 r1 : Nat} (e0 : r0 = 0) (e1 : r1 = 1) {s : Nat} (hs : s < 4) {so w : Int32} (hso : -1 ≤ so ∧ so ≤ 2) (hn1 : ¬ so = -1) (hw : w ≤ 40) (h0 : w < 0) (hd : 4 ≤ d) : Ex d 117 [.ref 0, .int (nI s), .int so, .int w] (N, H3 g (cc A T K B E l G) Qm) (some (.int (-14))) (N, H3 g (cc A T K B E l G) Qm) := by
  refine Ex.of ?_
  show Wp _ 117 0 [.ref 0, .int (nI s), .int so, .int w] [] _ _
  refine W_iload_n d_117_0 rfl ?_
  refine W_callS d_117_1 o_117 k_6_229 (by omega) (x_133 (by omega)) rfl (Nat.le_of_ble_eq_true rfl) ?_
  refine W_if_eq (tgt := 28) d_117_4 (by decide) (fun h4 => absurd h4 (fun q => bI_f q ⟨nI_pos' (by omega), nI_le (a := s) (b := 3) (by omega) (by decide)⟩)) (fun h4 => ?_)
  refine W_iload_n d_117_7 rfl ?_
  refine W_iconst d_117_8 (v := (-1)) (by decide) ?_
  refine W_icmp_lt (tgt := 28) d_117_9 (by decide) (fun h9 => absurd h9 (Int32.not_lt.mpr hso.1)) (fun h9 => ?_)
  refine W_iload_n d_117_12 rfl ?_
  refine W_iconst d_117_13 (v := 2) (by decide) ?_
  refine W_icmp_gt (tgt := 28) d_117_14 (by decide) (fun h14 => absurd h14 (Int32.not_lt.mpr hso.2)) (fun h14 => ?_)
  refine W_iload_n d_117_17 rfl ?_
  refine W_iconst d_117_18 (v := (-1)) (by decide) ?_
  refine W_icmp_eq (tgt := 31) d_117_19 (by decide) (fun h19 => absurd h19 hn1) (fun h19 => ?_)
  refine W_iload_n d_117_22 rfl ?_
  refine W_bipush d_117_23 (v := 40) (by decide) ?_
  refine W_icmp_le (tgt := 31) d_117_25 (by decide) (fun h25 => ?_) (fun h25 => absurd hw h25)
  refine W_iload_n d_117_31 rfl ?_
  refine W_iconst d_117_32 (v := (-1)) (by decide) ?_
  refine W_icmp_eq (tgt := 43) d_117_33 (by decide) (fun h33 => absurd h33 hn1) (fun h33 => ?_)
  refine W_iload_n d_117_36 rfl ?_
  refine W_if_ge (tgt := 43) d_117_37 (by decide) (fun h37 => absurd h37 (Int32.not_le.mpr h0)) (fun h37 => ?_)
  refine W_bipush d_117_40 (v := (-14)) (by decide) ?_
  refine W_iret d_117_42 rt_117 rfl ?_
  exact ⟨rfl, rfl⟩
theorem p_117 {d : Nat} {g : mG} {N : Nat} {A T K : Nat → tR} {B : tR} {E : Nat → Int32} {l : Int64} {G : tR} {Qm : Nat → mC} {r0 r1 : Nat} (e0 : r0 = 0) (e1 : r1 = 1) {s : Nat} (hs : s < 4) {so w : Int32} (hso : -1 ≤ so ∧ so ≤ 2) (hn1 : ¬ so = -1) (hw : w ≤ 40) (h0 : 0 ≤ w) (hd : 4 ≤ d) : Ex d 117 [.ref 0, .int (nI s), .int so, .int w] (N, H3 g (cc A T K B E l G) Qm) (some (.int (1))) (N, H3 g (cc A T (shZ (u3 (u3 K s 1 0 so) s 1 1 w) s 40) B E l G) Qm) := by
  refine Ex.of ?_
  show Wp _ 117 0 [.ref 0, .int (nI s), .int so, .int w] [] _ _
  refine W_iload_n d_117_0 rfl ?_
  refine W_callS d_117_1 o_117 k_6_229 (by omega) (x_133 (by omega)) rfl (Nat.le_of_ble_eq_true rfl) ?_
  refine W_if_eq (tgt := 28) d_117_4 (by decide) (fun h4 => absurd h4 (fun q => bI_f q ⟨nI_pos' (by omega), nI_le (a := s) (b := 3) (by omega) (by decide)⟩)) (fun h4 => ?_)
  refine W_iload_n d_117_7 rfl ?_
  refine W_iconst d_117_8 (v := (-1)) (by decide) ?_
  refine W_icmp_lt (tgt := 28) d_117_9 (by decide) (fun h9 => absurd h9 (Int32.not_lt.mpr hso.1)) (fun h9 => ?_)
  refine W_iload_n d_117_12 rfl ?_
  refine W_iconst d_117_13 (v := 2) (by decide) ?_
  refine W_icmp_gt (tgt := 28) d_117_14 (by decide) (fun h14 => absurd h14 (Int32.not_lt.mpr hso.2)) (fun h14 => ?_)
  refine W_iload_n d_117_17 rfl ?_
  refine W_iconst d_117_18 (v := (-1)) (by decide) ?_
  refine W_icmp_eq (tgt := 31) d_117_19 (by decide) (fun h19 => absurd h19 hn1) (fun h19 => ?_)
  refine W_iload_n d_117_22 rfl ?_
  refine W_bipush d_117_23 (v := 40) (by decide) ?_
  refine W_icmp_le (tgt := 31) d_117_25 (by decide) (fun h25 => ?_) (fun h25 => absurd hw h25)
  refine W_iload_n d_117_31 rfl ?_
  refine W_iconst d_117_32 (v := (-1)) (by decide) ?_
  refine W_icmp_eq (tgt := 43) d_117_33 (by decide) (fun h33 => absurd h33 hn1) (fun h33 => ?_)
  refine W_iload_n d_117_36 rfl ?_
  refine W_if_ge (tgt := 43) d_117_37 (by decide) (fun h37 => ?_) (fun h37 => absurd h0 h37)
  refine W_aload_n d_117_43 rfl (by decide) ?_
  refine W_getf d_117_44 o_117 k_6_37 rfl rfl ?_
  refine W_iload_n d_117_47 rfl ?_
  refine W_aald d_117_48 rfl (vp_in_nI (by omega) (by decide)) (sha_v (by omega)) ?_
  refine W_iload_n d_117_49 rfl ?_
  refine W_iload_n d_117_50 rfl ?_
  refine W_iconst d_117_51 (v := (-1)) (by decide) ?_
  refine W_icmp_ne (tgt := 59) d_117_52 (by decide) (fun h52 => ?_) (fun h52 => absurd h52 hn1)
  refine W_iload_n d_117_59 rfl ?_
  refine W_callV d_117_60 o_117 (Or.inl k_6_232) (by omega) (x_79 (by assumption)) rfl (mrecv_of (h_sheet (by assumption)) o_79.symm) rfl (Nat.le_of_ble_eq_true rfl) ?_
  refine W_iconst d_117_63 (v := 1) (by decide) ?_
  refine W_iret d_117_64 rt_117 rfl ?_
  exact ⟨rfl, rfl⟩
theorem p_117m {d : Nat} {g : mG} {N : Nat} {A T K : Nat → tR} {B : tR} {E : Nat → Int32} {l : Int64} {G : tR} {Qm : Nat → mC} {r0 r1 : Nat} (e0 : r0 = 0) (e1 : r1 = 1) {s : Nat} (hs : s < 4) {w : Int32} (hd : 4 ≤ d) : Ex d 117 [.ref 0, .int (nI s), .int (-1), .int w] (N, H3 g (cc A T K B E l G) Qm) (some (.int (1))) (N, H3 g (cc A T (shZ (u3 (u3 K s 1 0 (-1)) s 1 1 0) s 40) B E l G) Qm) := by
  refine Ex.of ?_
  show Wp _ 117 0 [.ref 0, .int (nI s), .int (-1), .int w] [] _ _
  refine W_iload_n d_117_0 rfl ?_
  refine W_callS d_117_1 o_117 k_6_229 (by omega) (x_133 (by omega)) rfl (Nat.le_of_ble_eq_true rfl) ?_
  refine W_if_eq (tgt := 28) d_117_4 (by decide) (fun h4 => absurd h4 (fun q => bI_f q ⟨nI_pos' (by omega), nI_le (a := s) (b := 3) (by omega) (by decide)⟩)) (fun h4 => ?_)
  refine W_iload_n d_117_7 rfl ?_
  refine W_iconst d_117_8 (v := (-1)) (by decide) ?_
  refine W_icmp_lt (tgt := 28) d_117_9 (by decide) (fun h9 => absurd h9 (by decide)) (fun _ => ?_)
  refine W_iload_n d_117_12 rfl ?_
  refine W_iconst d_117_13 (v := 2) (by decide) ?_
  refine W_icmp_gt (tgt := 28) d_117_14 (by decide) (fun h14 => absurd h14 (by decide)) (fun _ => ?_)
  refine W_iload_n d_117_17 rfl ?_
  refine W_iconst d_117_18 (v := (-1)) (by decide) ?_
  refine W_icmp_eq (tgt := 31) d_117_19 (by decide) (fun _ => ?_) (fun h19 => absurd h19 (by decide))
  refine W_iload_n d_117_31 rfl ?_
  refine W_iconst d_117_32 (v := (-1)) (by decide) ?_
  refine W_icmp_eq (tgt := 43) d_117_33 (by decide) (fun _ => ?_) (fun h33 => absurd h33 (by decide))
  refine W_aload_n d_117_43 rfl (by decide) ?_
  refine W_getf d_117_44 o_117 k_6_37 rfl rfl ?_
  refine W_iload_n d_117_47 rfl ?_
  refine W_aald d_117_48 rfl (vp_in_nI (by omega) (by decide)) (sha_v (by omega)) ?_
  refine W_iload_n d_117_49 rfl ?_
  refine W_iload_n d_117_50 rfl ?_
  refine W_iconst d_117_51 (v := (-1)) (by decide) ?_
  refine W_icmp_ne (tgt := 59) d_117_52 (by decide) (fun h52 => absurd h52 (by decide)) (fun _ => ?_)
  refine W_iconst d_117_55 (v := 0) (by decide) ?_
  refine W_goto (tgt := 60) d_117_56 (by decide) ?_
  refine W_callV d_117_60 o_117 (Or.inl k_6_232) (by omega) (x_79 (by assumption)) rfl (mrecv_of (h_sheet (by assumption)) o_79.symm) rfl (Nat.le_of_ble_eq_true rfl) ?_
  refine W_iconst d_117_63 (v := 1) (by decide) ?_
  refine W_iret d_117_64 rt_117 rfl ?_
  exact ⟨rfl, rfl⟩
theorem p_118a {d : Nat} {g : mG} {N : Nat} {A T K : Nat → tR} {B : tR} {E : Nat → Int32} {l : Int64} {G : tR} {Qm : Nat → mC} {r0 r1 : Nat} (e0 : r0 = 0) (e1 : r1 = 1) {v i w : Int32} (hb : ¬ (0 ≤ v ∧ v ≤ 3)) (hd : 4 ≤ d) : Ex d 118 [.ref 0, .int v, .int i, .int w] (N, H3 g (cc A T K B E l G) Qm) (some (.int (-2))) (N, H3 g (cc A T K B E l G) Qm) := by
  refine Ex.of ?_
  show Wp _ 118 0 [.ref 0, .int v, .int i, .int w] [] _ _
  refine W_iload_n d_118_0 rfl ?_
  refine W_callS d_118_1 o_118 k_6_229 (by omega) (x_133 (by omega)) rfl (Nat.le_of_ble_eq_true rfl) ?_
  refine W_if_ne (tgt := 10) d_118_4 (by decide) (fun h4 => absurd (bI_ne.mpr hb) h4) (fun h4 => ?_)
  refine W_bipush d_118_7 (v := (-2)) (by decide) ?_
  refine W_iret d_118_9 rt_118 rfl ?_
  exact ⟨rfl, rfl⟩
theorem p_118b {d : Nat} {g : mG} {N : Nat} {A T K : Nat → tR} {B : tR} {E : Nat → Int32} {l : Int64} {G : tR} {Qm : Nat → mC} {r0 r1 : Nat} (e0 : r0 = 0) (e1 : r1 = 1) {s : Nat} (hs : s < 4) {i w : Int32} (hm : K s 1 0 = -1) (hd : 4 ≤ d) : Ex d 118 [.ref 0, .int (nI s), .int i, .int w] (N, H3 g (cc A T K B E l G) Qm) (some (.int (-11))) (N, H3 g (cc A T K B E l G) Qm) := by
  refine Ex.of ?_
  show Wp _ 118 0 [.ref 0, .int (nI s), .int i, .int w] [] _ _
  refine W_iload_n d_118_0 rfl ?_
  refine W_callS d_118_1 o_118 k_6_229 (by omega) (x_133 (by omega)) rfl (Nat.le_of_ble_eq_true rfl) ?_
  refine W_if_ne (tgt := 10) d_118_4 (by decide) (fun h4 => ?_) (fun h4 => absurd h4 (fun q => bI_f q ⟨nI_pos' (by omega), nI_le (a := s) (b := 3) (by omega) (by decide)⟩))
  refine W_aload_n d_118_10 rfl (by decide) ?_
  refine W_getf d_118_11 o_118 k_6_37 rfl rfl ?_
  refine W_iload_n d_118_14 rfl ?_
  refine W_aald d_118_15 rfl (vp_in_nI (by omega) (by decide)) (sha_v (by omega)) ?_
  refine W_callV d_118_16 o_118 (Or.inl k_6_238) (by omega) (x_78 (by assumption)) rfl (mrecv_of (h_sheet (by assumption)) o_78.symm) rfl (Nat.le_of_ble_eq_true rfl) ?_
  refine W_if_eq (tgt := 25) d_118_19 (by decide) (fun h19 => absurd h19 (fun q => bI_f q hm)) (fun h19 => ?_)
  refine W_bipush d_118_22 (v := (-11)) (by decide) ?_
  refine W_iret d_118_24 rt_118 rfl ?_
  exact ⟨rfl, rfl⟩
theorem p_118c {d : Nat} {g : mG} {N : Nat} {A T K : Nat → tR} {B : tR} {E : Nat → Int32} {l : Int64} {G : tR} {Qm : Nat → mC} {r0 r1 : Nat} (e0 : r0 = 0) (e1 : r1 = 1) {s : Nat} (hs : s < 4) {i w : Int32} (hm : ¬ K s 1 0 = -1) (hb : ¬ (0 ≤ i ∧ i < K s 1 1)) (hd : 4 ≤ d) : Ex d 118 [.ref 0, .int (nI s), .int i, .int w] (N, H3 g (cc A T K B E l G) Qm) (some (.int (-12))) (N, H3 g (cc A T K B E l G) Qm) := by
  refine Ex.of ?_
  show Wp _ 118 0 [.ref 0, .int (nI s), .int i, .int w] [] _ _
  refine W_iload_n d_118_0 rfl ?_
  refine W_callS d_118_1 o_118 k_6_229 (by omega) (x_133 (by omega)) rfl (Nat.le_of_ble_eq_true rfl) ?_
  refine W_if_ne (tgt := 10) d_118_4 (by decide) (fun h4 => ?_) (fun h4 => absurd h4 (fun q => bI_f q ⟨nI_pos' (by omega), nI_le (a := s) (b := 3) (by omega) (by decide)⟩))
  refine W_aload_n d_118_10 rfl (by decide) ?_
  refine W_getf d_118_11 o_118 k_6_37 rfl rfl ?_
  refine W_iload_n d_118_14 rfl ?_
  refine W_aald d_118_15 rfl (vp_in_nI (by omega) (by decide)) (sha_v (by omega)) ?_
  refine W_callV d_118_16 o_118 (Or.inl k_6_238) (by omega) (x_78 (by assumption)) rfl (mrecv_of (h_sheet (by assumption)) o_78.symm) rfl (Nat.le_of_ble_eq_true rfl) ?_
  refine W_if_eq (tgt := 25) d_118_19 (by decide) (fun h19 => ?_) (fun h19 => absurd (bI_ne.mpr hm) h19)
  refine W_aload_n d_118_25 rfl (by decide) ?_
  refine W_getf d_118_26 o_118 k_6_37 rfl rfl ?_
  refine W_iload_n d_118_29 rfl ?_
  refine W_aald d_118_30 rfl (vp_in_nI (by omega) (by decide)) (sha_v (by omega)) ?_
  refine W_iload_n d_118_31 rfl ?_
  refine W_callV d_118_32 o_118 (Or.inl k_6_261) (by omega) (x_80 (by assumption)) rfl (mrecv_of (h_sheet (by assumption)) o_80.symm) rfl (Nat.le_of_ble_eq_true rfl) ?_
  refine W_if_ne (tgt := 41) d_118_35 (by decide) (fun h35 => absurd (bI_ne.mpr hb) h35) (fun h35 => ?_)
  refine W_bipush d_118_38 (v := (-12)) (by decide) ?_
  refine W_iret d_118_40 rt_118 rfl ?_
  exact ⟨rfl, rfl⟩
theorem p_118 {d : Nat} {g : mG} {N : Nat} {A T K : Nat → tR} {B : tR} {E : Nat → Int32} {l : Int64} {G : tR} {Qm : Nat → mC} {r0 r1 : Nat} (e0 : r0 = 0) (e1 : r1 = 1) {s : Nat} (hs : s < 4) {i : Nat} {w : Int32} (hm : ¬ K s 1 0 = -1) {sz : Nat} (hsz : K s 1 1 = nI sz) (h40 : sz ≤ 40) (hi : i < sz) (hd : 4 ≤ d) : Ex d 118 [.ref 0, .int (nI s), .int (nI i), .int w] (N, H3 g (cc A T K B E l G) Qm) (some (.int (1))) (N, H3 g (cc A T (u3 K s 0 i (shv (K s 1 0) w)) B E l G) Qm) := by
  refine Ex.of ?_
  show Wp _ 118 0 [.ref 0, .int (nI s), .int (nI i), .int w] [] _ _
  refine W_iload_n d_118_0 rfl ?_
  refine W_callS d_118_1 o_118 k_6_229 (by omega) (x_133 (by omega)) rfl (Nat.le_of_ble_eq_true rfl) ?_
  refine W_if_ne (tgt := 10) d_118_4 (by decide) (fun h4 => ?_) (fun h4 => absurd h4 (fun q => bI_f q ⟨nI_pos' (by omega), nI_le (a := s) (b := 3) (by omega) (by decide)⟩))
  refine W_aload_n d_118_10 rfl (by decide) ?_
  refine W_getf d_118_11 o_118 k_6_37 rfl rfl ?_
  refine W_iload_n d_118_14 rfl ?_
  refine W_aald d_118_15 rfl (vp_in_nI (by omega) (by decide)) (sha_v (by omega)) ?_
  refine W_callV d_118_16 o_118 (Or.inl k_6_238) (by omega) (x_78 (by assumption)) rfl (mrecv_of (h_sheet (by assumption)) o_78.symm) rfl (Nat.le_of_ble_eq_true rfl) ?_
  refine W_if_eq (tgt := 25) d_118_19 (by decide) (fun h19 => ?_) (fun h19 => absurd (bI_ne.mpr hm) h19)
  refine W_aload_n d_118_25 rfl (by decide) ?_
  refine W_getf d_118_26 o_118 k_6_37 rfl rfl ?_
  refine W_iload_n d_118_29 rfl ?_
  refine W_aald d_118_30 rfl (vp_in_nI (by omega) (by decide)) (sha_v (by omega)) ?_
  refine W_iload_n d_118_31 rfl ?_
  refine W_callV d_118_32 o_118 (Or.inl k_6_261) (by omega) (x_80 (by assumption)) rfl (mrecv_of (h_sheet (by assumption)) o_80.symm) rfl (Nat.le_of_ble_eq_true rfl) ?_
  refine W_if_ne (tgt := 41) d_118_35 (by decide) (fun h35 => ?_) (fun h35 => absurd h35 (fun q => bI_f q ⟨nI_pos' (by omega), by rw [hsz]; exact nI_lt hi (by omega)⟩))
  refine W_aload_n d_118_41 rfl (by decide) ?_
  refine W_getf d_118_42 o_118 k_6_37 rfl rfl ?_
  refine W_iload_n d_118_45 rfl ?_
  refine W_aald d_118_46 rfl (vp_in_nI (by omega) (by decide)) (sha_v (by omega)) ?_
  refine W_iload_n d_118_47 rfl ?_
  refine W_iload_n d_118_48 rfl ?_
  refine W_callV d_118_49 o_118 (Or.inl k_6_235) (by omega) (x_82 (by assumption) (show i < 40 by omega)) rfl (mrecv_of (h_sheet (by assumption)) o_82.symm) rfl (Nat.le_of_ble_eq_true rfl) ?_
  refine W_iconst d_118_52 (v := 1) (by decide) ?_
  refine W_iret d_118_53 rt_118 rfl ?_
  exact ⟨rfl, rfl⟩
theorem p_119a {d : Nat} {g : mG} {N : Nat} {A T K : Nat → tR} {B : tR} {E : Nat → Int32} {l : Int64} {G : tR} {Qm : Nat → mC} {r0 r1 : Nat} (e0 : r0 = 0) (e1 : r1 = 1) {v i u j w : Int32} (hb : ¬ ((0 ≤ v ∧ v ≤ 3) ∧ (0 ≤ u ∧ u ≤ 3))) (hd : 4 ≤ d) : Ex d 119 [.ref 0, .int v, .int i, .int u, .int j, .int w] (N, H3 g (cc A T K B E l G) Qm) (some (.int (-2))) (N, H3 g (cc A T K B E l G) Qm) := by
  refine Ex.of ?_
  show Wp _ 119 0 [.ref 0, .int v, .int i, .int u, .int j, .int w, .null, .null] [] _ _
  refine W_iload_n d_119_0 rfl ?_
  refine W_callS d_119_1 o_119 k_6_229 (by omega) (x_133 (by omega)) rfl (Nat.le_of_ble_eq_true rfl) ?_
  refine W_if_eq (tgt := 14) d_119_4 (by decide) (fun h4 => ?_) (fun h4 => ?_)
  · refine W_bipush d_119_14 (v := (-2)) (by decide) ?_
    refine W_iret d_119_16 rt_119 rfl ?_
    exact ⟨rfl, rfl⟩
  · refine W_iload_n d_119_7 rfl ?_
    refine W_callS d_119_8 o_119 k_6_229 (by omega) (x_133 (by omega)) rfl (Nat.le_of_ble_eq_true rfl) ?_
    refine W_if_ne (tgt := 17) d_119_11 (by decide) (fun h11 => ?_) (fun h11 => ?_)
    · exact (hb ⟨bI_t h4, bI_t h11⟩).elim
    · refine W_bipush d_119_14 (v := (-2)) (by decide) ?_
      refine W_iret d_119_16 rt_119 rfl ?_
      exact ⟨rfl, rfl⟩
theorem p_119b {d : Nat} {g : mG} {N : Nat} {A T K : Nat → tR} {B : tR} {E : Nat → Int32} {l : Int64} {G : tR} {Qm : Nat → mC} {r0 r1 : Nat} (e0 : r0 = 0) (e1 : r1 = 1) {s o : Nat} (hs : s < 4) (ho : o < 4) {i j w : Int32} (hb : ¬ (¬ K s 1 0 = -1 ∧ ¬ K o 1 0 = -1)) (hd : 4 ≤ d) : Ex d 119 [.ref 0, .int (nI s), .int i, .int (nI o), .int j, .int w] (N, H3 g (cc A T K B E l G) Qm) (some (.int (-11))) (N, H3 g (cc A T K B E l G) Qm) := by
  refine Ex.of ?_
  show Wp _ 119 0 [.ref 0, .int (nI s), .int i, .int (nI o), .int j, .int w, .null, .null] [] _ _
  refine W_iload_n d_119_0 rfl ?_
  refine W_callS d_119_1 o_119 k_6_229 (by omega) (x_133 (by omega)) rfl (Nat.le_of_ble_eq_true rfl) ?_
  refine W_if_eq (tgt := 14) d_119_4 (by decide) (fun h4 => absurd h4 (fun q => bI_f q ⟨nI_pos' (by omega), nI_le (a := s) (b := 3) (by omega) (by decide)⟩)) (fun h4 => ?_)
  refine W_iload_n d_119_7 rfl ?_
  refine W_callS d_119_8 o_119 k_6_229 (by omega) (x_133 (by omega)) rfl (Nat.le_of_ble_eq_true rfl) ?_
  refine W_if_ne (tgt := 17) d_119_11 (by decide) (fun h11 => ?_) (fun h11 => absurd h11 (fun q => bI_f q ⟨nI_pos' (by omega), nI_le (a := o) (b := 3) (by omega) (by decide)⟩))
  refine W_aload_n d_119_17 rfl (by decide) ?_
  refine W_getf d_119_18 o_119 k_6_37 rfl rfl ?_
  refine W_iload_n d_119_21 rfl ?_
  refine W_aald d_119_22 rfl (vp_in_nI (by omega) (by decide)) (sha_v (by omega)) ?_
  refine W_astore d_119_23 (sb_ne (by assumption)) rfl ?_
  refine W_aload_n d_119_25 rfl (by decide) ?_
  refine W_getf d_119_26 o_119 k_6_37 rfl rfl ?_
  refine W_iload_n d_119_29 rfl ?_
  refine W_aald d_119_30 rfl (vp_in_nI (by omega) (by decide)) (sha_v (by omega)) ?_
  refine W_astore d_119_31 (sb_ne (by assumption)) rfl ?_
  refine W_aload d_119_33 rfl (sb_ne (by assumption)) ?_
  refine W_callV d_119_35 o_119 (Or.inl k_6_238) (by omega) (x_78 (by assumption)) rfl (mrecv_of (h_sheet (by assumption)) o_78.symm) rfl (Nat.le_of_ble_eq_true rfl) ?_
  refine W_if_ne (tgt := 49) d_119_38 (by decide) (fun h38 => ?_) (fun h38 => ?_)
  · refine W_bipush d_119_49 (v := (-11)) (by decide) ?_
    refine W_iret d_119_51 rt_119 rfl ?_
    exact ⟨rfl, rfl⟩
  · refine W_aload d_119_41 rfl (sb_ne (by assumption)) ?_
    refine W_callV d_119_43 o_119 (Or.inl k_6_238) (by omega) (x_78 (by assumption)) rfl (mrecv_of (h_sheet (by assumption)) o_78.symm) rfl (Nat.le_of_ble_eq_true rfl) ?_
    refine W_if_eq (tgt := 52) d_119_46 (by decide) (fun h46 => ?_) (fun h46 => ?_)
    · exact (hb ⟨bI_f h38, bI_f h46⟩).elim
    · refine W_bipush d_119_49 (v := (-11)) (by decide) ?_
      refine W_iret d_119_51 rt_119 rfl ?_
      exact ⟨rfl, rfl⟩
theorem p_119c {d : Nat} {g : mG} {N : Nat} {A T K : Nat → tR} {B : tR} {E : Nat → Int32} {l : Int64} {G : tR} {Qm : Nat → mC} {r0 r1 : Nat} (e0 : r0 = 0) (e1 : r1 = 1) {s o : Nat} (hs : s < 4) (ho : o < 4) {i j w : Int32} (hm : ¬ K s 1 0 = -1 ∧ ¬ K o 1 0 = -1) (hb : ¬ K s 1 0 = K o 1 0) (hd : 4 ≤ d) : Ex d 119 [.ref 0, .int (nI s), .int i, .int (nI o), .int j, .int w] (N, H3 g (cc A T K B E l G) Qm) (some (.int (-13))) (N, H3 g (cc A T K B E l G) Qm) := by
  refine Ex.of ?_
  show Wp _ 119 0 [.ref 0, .int (nI s), .int i, .int (nI o), .int j, .int w, .null, .null] [] _ _
  refine W_iload_n d_119_0 rfl ?_
  refine W_callS d_119_1 o_119 k_6_229 (by omega) (x_133 (by omega)) rfl (Nat.le_of_ble_eq_true rfl) ?_
  refine W_if_eq (tgt := 14) d_119_4 (by decide) (fun h4 => absurd h4 (fun q => bI_f q ⟨nI_pos' (by omega), nI_le (a := s) (b := 3) (by omega) (by decide)⟩)) (fun h4 => ?_)
  refine W_iload_n d_119_7 rfl ?_
  refine W_callS d_119_8 o_119 k_6_229 (by omega) (x_133 (by omega)) rfl (Nat.le_of_ble_eq_true rfl) ?_
  refine W_if_ne (tgt := 17) d_119_11 (by decide) (fun h11 => ?_) (fun h11 => absurd h11 (fun q => bI_f q ⟨nI_pos' (by omega), nI_le (a := o) (b := 3) (by omega) (by decide)⟩))
  refine W_aload_n d_119_17 rfl (by decide) ?_
  refine W_getf d_119_18 o_119 k_6_37 rfl rfl ?_
  refine W_iload_n d_119_21 rfl ?_
  refine W_aald d_119_22 rfl (vp_in_nI (by omega) (by decide)) (sha_v (by omega)) ?_
  refine W_astore d_119_23 (sb_ne (by assumption)) rfl ?_
  refine W_aload_n d_119_25 rfl (by decide) ?_
  refine W_getf d_119_26 o_119 k_6_37 rfl rfl ?_
  refine W_iload_n d_119_29 rfl ?_
  refine W_aald d_119_30 rfl (vp_in_nI (by omega) (by decide)) (sha_v (by omega)) ?_
  refine W_astore d_119_31 (sb_ne (by assumption)) rfl ?_
  refine W_aload d_119_33 rfl (sb_ne (by assumption)) ?_
  refine W_callV d_119_35 o_119 (Or.inl k_6_238) (by omega) (x_78 (by assumption)) rfl (mrecv_of (h_sheet (by assumption)) o_78.symm) rfl (Nat.le_of_ble_eq_true rfl) ?_
  refine W_if_ne (tgt := 49) d_119_38 (by decide) (fun h38 => absurd (bI_ne.mpr hm.1) h38) (fun h38 => ?_)
  refine W_aload d_119_41 rfl (sb_ne (by assumption)) ?_
  refine W_callV d_119_43 o_119 (Or.inl k_6_238) (by omega) (x_78 (by assumption)) rfl (mrecv_of (h_sheet (by assumption)) o_78.symm) rfl (Nat.le_of_ble_eq_true rfl) ?_
  refine W_if_eq (tgt := 52) d_119_46 (by decide) (fun h46 => ?_) (fun h46 => absurd (bI_ne.mpr hm.2) h46)
  refine W_aload d_119_52 rfl (sb_ne (by assumption)) ?_
  refine W_getf d_119_54 o_119 k_6_264 (h_sheet (by assumption)) rfl ?_
  refine W_aload d_119_57 rfl (sb_ne (by assumption)) ?_
  refine W_getf d_119_59 o_119 k_6_264 (h_sheet (by assumption)) rfl ?_
  refine W_icmp_eq (tgt := 68) d_119_62 (by decide) (fun h62 => absurd h62 hb) (fun h62 => ?_)
  refine W_bipush d_119_65 (v := (-13)) (by decide) ?_
  refine W_iret d_119_67 rt_119 rfl ?_
  exact ⟨rfl, rfl⟩
theorem p_119d {d : Nat} {g : mG} {N : Nat} {A T K : Nat → tR} {B : tR} {E : Nat → Int32} {l : Int64} {G : tR} {Qm : Nat → mC} {r0 r1 : Nat} (e0 : r0 = 0) (e1 : r1 = 1) {s o : Nat} (hs : s < 4) (ho : o < 4) {i j w : Int32} (hm : ¬ K s 1 0 = -1 ∧ ¬ K o 1 0 = -1) (he : K s 1 0 = K o 1 0) (hb : ¬ ((0 ≤ i ∧ 0 ≤ w ∧ w ≤ K s 1 1 - i) ∧ (0 ≤ j ∧ 0 ≤ w ∧ w ≤ K o 1 1 - j))) (hd : 4 ≤ d) : Ex d 119 [.ref 0, .int (nI s), .int i, .int (nI o), .int j, .int w] (N, H3 g (cc A T K B E l G) Qm) (some (.int (-12))) (N, H3 g (cc A T K B E l G) Qm) := by
  refine Ex.of ?_
  show Wp _ 119 0 [.ref 0, .int (nI s), .int i, .int (nI o), .int j, .int w, .null, .null] [] _ _
  refine W_iload_n d_119_0 rfl ?_
  refine W_callS d_119_1 o_119 k_6_229 (by omega) (x_133 (by omega)) rfl (Nat.le_of_ble_eq_true rfl) ?_
  refine W_if_eq (tgt := 14) d_119_4 (by decide) (fun h4 => absurd h4 (fun q => bI_f q ⟨nI_pos' (by omega), nI_le (a := s) (b := 3) (by omega) (by decide)⟩)) (fun h4 => ?_)
  refine W_iload_n d_119_7 rfl ?_
  refine W_callS d_119_8 o_119 k_6_229 (by omega) (x_133 (by omega)) rfl (Nat.le_of_ble_eq_true rfl) ?_
  refine W_if_ne (tgt := 17) d_119_11 (by decide) (fun h11 => ?_) (fun h11 => absurd h11 (fun q => bI_f q ⟨nI_pos' (by omega), nI_le (a := o) (b := 3) (by omega) (by decide)⟩))
  refine W_aload_n d_119_17 rfl (by decide) ?_
  refine W_getf d_119_18 o_119 k_6_37 rfl rfl ?_
  refine W_iload_n d_119_21 rfl ?_
  refine W_aald d_119_22 rfl (vp_in_nI (by omega) (by decide)) (sha_v (by omega)) ?_
  refine W_astore d_119_23 (sb_ne (by assumption)) rfl ?_
  refine W_aload_n d_119_25 rfl (by decide) ?_
  refine W_getf d_119_26 o_119 k_6_37 rfl rfl ?_
  refine W_iload_n d_119_29 rfl ?_
  refine W_aald d_119_30 rfl (vp_in_nI (by omega) (by decide)) (sha_v (by omega)) ?_
  refine W_astore d_119_31 (sb_ne (by assumption)) rfl ?_
  refine W_aload d_119_33 rfl (sb_ne (by assumption)) ?_
  refine W_callV d_119_35 o_119 (Or.inl k_6_238) (by omega) (x_78 (by assumption)) rfl (mrecv_of (h_sheet (by assumption)) o_78.symm) rfl (Nat.le_of_ble_eq_true rfl) ?_
  refine W_if_ne (tgt := 49) d_119_38 (by decide) (fun h38 => absurd (bI_ne.mpr hm.1) h38) (fun h38 => ?_)
  refine W_aload d_119_41 rfl (sb_ne (by assumption)) ?_
  refine W_callV d_119_43 o_119 (Or.inl k_6_238) (by omega) (x_78 (by assumption)) rfl (mrecv_of (h_sheet (by assumption)) o_78.symm) rfl (Nat.le_of_ble_eq_true rfl) ?_
  refine W_if_eq (tgt := 52) d_119_46 (by decide) (fun h46 => ?_) (fun h46 => absurd (bI_ne.mpr hm.2) h46)
  refine W_aload d_119_52 rfl (sb_ne (by assumption)) ?_
  refine W_getf d_119_54 o_119 k_6_264 (h_sheet (by assumption)) rfl ?_
  refine W_aload d_119_57 rfl (sb_ne (by assumption)) ?_
  refine W_getf d_119_59 o_119 k_6_264 (h_sheet (by assumption)) rfl ?_
  refine W_icmp_eq (tgt := 68) d_119_62 (by decide) (fun h62 => ?_) (fun h62 => absurd he h62)
  refine W_aload d_119_68 rfl (sb_ne (by assumption)) ?_
  refine W_iload_n d_119_70 rfl ?_
  refine W_iload d_119_71 rfl ?_
  refine W_callV d_119_73 o_119 (Or.inl k_6_267) (by omega) (x_81 (by assumption)) rfl (mrecv_of (h_sheet (by assumption)) o_81.symm) rfl (Nat.le_of_ble_eq_true rfl) ?_
  refine W_if_eq (tgt := 91) d_119_76 (by decide) (fun h76 => ?_) (fun h76 => ?_)
  · refine W_bipush d_119_91 (v := (-12)) (by decide) ?_
    refine W_iret d_119_93 rt_119 rfl ?_
    exact ⟨rfl, rfl⟩
  · refine W_aload d_119_79 rfl (sb_ne (by assumption)) ?_
    refine W_iload d_119_81 rfl ?_
    refine W_iload d_119_83 rfl ?_
    refine W_callV d_119_85 o_119 (Or.inl k_6_267) (by omega) (x_81 (by assumption)) rfl (mrecv_of (h_sheet (by assumption)) o_81.symm) rfl (Nat.le_of_ble_eq_true rfl) ?_
    refine W_if_ne (tgt := 94) d_119_88 (by decide) (fun h88 => ?_) (fun h88 => ?_)
    · exact (hb ⟨bI_t h76, bI_t h88⟩).elim
    · refine W_bipush d_119_91 (v := (-12)) (by decide) ?_
      refine W_iret d_119_93 rt_119 rfl ?_
      exact ⟨rfl, rfl⟩
theorem places {i w c : Nat} (hc : c ≤ 40) (h : i + w ≤ c) : 0 ≤ nI i ∧ 0 ≤ nI w ∧ nI w ≤ nI c - nI i := by
  refine ⟨nI_pos' (by omega), nI_pos' (by omega), ?_⟩
  rw [pk_sub (a := c) (b := i) (by omega)]
  exact nI_le (by omega) (by omega)
theorem places_of {i w : Int32} {c : Nat} (hc : c ≤ 40) (h : 0 ≤ i ∧ 0 ≤ w ∧ w ≤ nI c - i) : ∃ a b : Nat, i = nI a ∧ w = nI b ∧ a + b ≤ c := by
  obtain ⟨h1, h2, h3⟩ := h
  obtain ⟨a, ha, rfl⟩ := nI_of (Int32.not_lt.mpr h1)
  obtain ⟨b, hb, rfl⟩ := nI_of (Int32.not_lt.mpr h2)
  refine ⟨a, b, rfl, rfl, ?_⟩
  have t : (nI c - nI a).toInt = (c : Int) - a := by
    rw [Int32.toInt_sub, nI_toInt (by omega), nI_toInt ha, Int.bmod_eq_of_le (by omega) (by omega)]
  rw [Int32.le_iff_toInt_le, t, nI_toInt hb] at h3
  omega
theorem p_119 {d : Nat} {g : mG} {N : Nat} {A T K : Nat → tR} {B : tR} {E : Nat → Int32} {l : Int64} {G : tR} {Qm : Nat → mC} {r0 r1 : Nat} (e0 : r0 = 0) (e1 : r1 = 1) {s o : Nat} (hs : s < 4) (ho : o < 4) {i j w a b : Nat} (hm : ¬ K s 1 0 = -1 ∧ ¬ K o 1 0 = -1) (he : K s 1 0 = K o 1 0) (hsa : K s 1 1 = nI a) (hsb : K o 1 1 = nI b) (ha : a ≤ 40) (hb : b ≤ 40) (h1 : i + w ≤ a) (h2 : j + w ≤ b) (hd : 4 ≤ d) : Ex d 119 [.ref 0, .int (nI s), .int (nI i), .int (nI o), .int (nI j), .int (nI w)] (N, H3 g (cc A T K B E l G) Qm) (some (.int (nI w))) (N, H3 g (cc A T (va_up K o (va_up (K o) 0 (va_cpy (K s 0) (K o 0) i j w))) B E l G) Qm) := by
  refine Ex.of ?_
  show Wp _ 119 0 [.ref 0, .int (nI s), .int (nI i), .int (nI o), .int (nI j), .int (nI w), .null, .null] [] _ _
  refine W_iload_n d_119_0 rfl ?_
  refine W_callS d_119_1 o_119 k_6_229 (by omega) (x_133 (by omega)) rfl (Nat.le_of_ble_eq_true rfl) ?_
  refine W_if_eq (tgt := 14) d_119_4 (by decide) (fun h4 => absurd h4 (fun q => bI_f q ⟨nI_pos' (by omega), nI_le (a := s) (b := 3) (by omega) (by decide)⟩)) (fun h4 => ?_)
  refine W_iload_n d_119_7 rfl ?_
  refine W_callS d_119_8 o_119 k_6_229 (by omega) (x_133 (by omega)) rfl (Nat.le_of_ble_eq_true rfl) ?_
  refine W_if_ne (tgt := 17) d_119_11 (by decide) (fun h11 => ?_) (fun h11 => absurd h11 (fun q => bI_f q ⟨nI_pos' (by omega), nI_le (a := o) (b := 3) (by omega) (by decide)⟩))
  refine W_aload_n d_119_17 rfl (by decide) ?_
  refine W_getf d_119_18 o_119 k_6_37 rfl rfl ?_
  refine W_iload_n d_119_21 rfl ?_
  refine W_aald d_119_22 rfl (vp_in_nI (by omega) (by decide)) (sha_v (by omega)) ?_
  refine W_astore d_119_23 (sb_ne (by assumption)) rfl ?_
  refine W_aload_n d_119_25 rfl (by decide) ?_
  refine W_getf d_119_26 o_119 k_6_37 rfl rfl ?_
  refine W_iload_n d_119_29 rfl ?_
  refine W_aald d_119_30 rfl (vp_in_nI (by omega) (by decide)) (sha_v (by omega)) ?_
  refine W_astore d_119_31 (sb_ne (by assumption)) rfl ?_
  refine W_aload d_119_33 rfl (sb_ne (by assumption)) ?_
  refine W_callV d_119_35 o_119 (Or.inl k_6_238) (by omega) (x_78 (by assumption)) rfl (mrecv_of (h_sheet (by assumption)) o_78.symm) rfl (Nat.le_of_ble_eq_true rfl) ?_
  refine W_if_ne (tgt := 49) d_119_38 (by decide) (fun h38 => absurd (bI_ne.mpr hm.1) h38) (fun h38 => ?_)
  refine W_aload d_119_41 rfl (sb_ne (by assumption)) ?_
  refine W_callV d_119_43 o_119 (Or.inl k_6_238) (by omega) (x_78 (by assumption)) rfl (mrecv_of (h_sheet (by assumption)) o_78.symm) rfl (Nat.le_of_ble_eq_true rfl) ?_
  refine W_if_eq (tgt := 52) d_119_46 (by decide) (fun h46 => ?_) (fun h46 => absurd (bI_ne.mpr hm.2) h46)
  refine W_aload d_119_52 rfl (sb_ne (by assumption)) ?_
  refine W_getf d_119_54 o_119 k_6_264 (h_sheet (by assumption)) rfl ?_
  refine W_aload d_119_57 rfl (sb_ne (by assumption)) ?_
  refine W_getf d_119_59 o_119 k_6_264 (h_sheet (by assumption)) rfl ?_
  refine W_icmp_eq (tgt := 68) d_119_62 (by decide) (fun h62 => ?_) (fun h62 => absurd he h62)
  refine W_aload d_119_68 rfl (sb_ne (by assumption)) ?_
  refine W_iload_n d_119_70 rfl ?_
  refine W_iload d_119_71 rfl ?_
  refine W_callV d_119_73 o_119 (Or.inl k_6_267) (by omega) (x_81 (by assumption)) rfl (mrecv_of (h_sheet (by assumption)) o_81.symm) rfl (Nat.le_of_ble_eq_true rfl) ?_
  refine W_if_eq (tgt := 91) d_119_76 (by decide) (fun h76 => absurd h76 (fun q => bI_f q (by rw [hsa]; exact places ha h1))) (fun h76 => ?_)
  refine W_aload d_119_79 rfl (sb_ne (by assumption)) ?_
  refine W_iload d_119_81 rfl ?_
  refine W_iload d_119_83 rfl ?_
  refine W_callV d_119_85 o_119 (Or.inl k_6_267) (by omega) (x_81 (by assumption)) rfl (mrecv_of (h_sheet (by assumption)) o_81.symm) rfl (Nat.le_of_ble_eq_true rfl) ?_
  refine W_if_ne (tgt := 94) d_119_88 (by decide) (fun h88 => ?_) (fun h88 => absurd h88 (fun q => bI_f q (by rw [hsb]; exact places hb h2)))
  refine W_aload d_119_94 rfl (sb_ne (by assumption)) ?_
  refine W_getf d_119_96 o_119 k_6_270 (h_sheet (by assumption)) rfl ?_
  refine W_iload_n d_119_99 rfl ?_
  refine W_aload d_119_100 rfl (sb_ne (by assumption)) ?_
  refine W_getf d_119_102 o_119 k_6_270 (h_sheet (by assumption)) rfl ?_
  refine W_iload d_119_105 rfl ?_
  refine W_iload d_119_107 rfl ?_
  refine W_copy d_119_109 o_119 k_6_273 (h_row hs) (h_row ho) (nI_pos (by omega)) (nI_pos (by omega)) (nI_pos (by omega)) (by rw [nI_clamp (by omega), nI_clamp (by omega)]; omega) (by rw [nI_clamp (by omega), nI_clamp (by omega)]; omega) (ms_row ho) ?_
  rw [nI_clamp (show i < 2 ^ 31 by omega), nI_clamp (show j < 2 ^ 31 by omega), nI_clamp (show w < 2 ^ 31 by omega)]
  refine W_iload d_119_112 rfl ?_
  refine W_iret d_119_114 rt_119 rfl ?_
  exact ⟨rfl, rfl⟩
theorem p_121a {d : Nat} {g : mG} {N : Nat} {A T K : Nat → tR} {B : tR} {E : Nat → Int32} {l : Int64} {G : tR} {Qm : Nat → mC} {r0 r1 : Nat} (e0 : r0 = 0) (e1 : r1 = 1) {v w : Int32} (hb : ¬ (0 ≤ w ∧ w ≤ 6)) (hd : 4 ≤ d) : Ex d 121 [.ref 0, .int v, .int w] (N, H3 g (cc A T K B E l G) Qm) (some (.long (-2))) (N, H3 g (cc A T K B E l G) Qm) := by
  refine Ex.of ?_
  show Wp _ 121 0 [.ref 0, .int v, .int w] [] _ _
  refine W_iload_n d_121_0 rfl ?_
  refine W_bipush d_121_1 (v := 6) (by decide) ?_
  refine W_callS d_121_3 o_121 k_6_95 (by omega) x_126 rfl (Nat.le_of_ble_eq_true rfl) ?_
  refine W_if_ne (tgt := 13) d_121_6 (by decide) (fun h6 => absurd (bI_ne.mpr hb) h6) (fun h6 => ?_)
  refine W_ldc2 d_121_9 o_121 k_6_282 (v := (-2)) (by decide) ?_
  refine W_lret d_121_12 rt_121 ?_
  exact ⟨rfl, rfl⟩
theorem p_121b {d : Nat} {g : mG} {N : Nat} {A T K : Nat → tR} {B : tR} {E : Nat → Int32} {l : Int64} {G : tR} {Qm : Nat → mC} {r0 r1 : Nat} (e0 : r0 = 0) (e1 : r1 = 1) {v w : Int32} (hw : 0 ≤ w ∧ w ≤ 6) (hb : ¬ (0 ≤ v ∧ v ≤ 17)) (hd : 4 ≤ d) : Ex d 121 [.ref 0, .int v, .int w] (N, H3 g (cc A T K B E l G) Qm) (some (.long (-12))) (N, H3 g (cc A T K B E l G) Qm) := by
  refine Ex.of ?_
  show Wp _ 121 0 [.ref 0, .int v, .int w] [] _ _
  refine W_iload_n d_121_0 rfl ?_
  refine W_bipush d_121_1 (v := 6) (by decide) ?_
  refine W_callS d_121_3 o_121 k_6_95 (by omega) x_126 rfl (Nat.le_of_ble_eq_true rfl) ?_
  refine W_if_ne (tgt := 13) d_121_6 (by decide) (fun h6 => ?_) (fun h6 => absurd h6 (fun q => bI_f q hw))
  refine W_iload_n d_121_13 rfl ?_
  refine W_bipush d_121_14 (v := 17) (by decide) ?_
  refine W_callS d_121_16 o_121 k_6_95 (by omega) x_126 rfl (Nat.le_of_ble_eq_true rfl) ?_
  refine W_if_ne (tgt := 26) d_121_19 (by decide) (fun h19 => absurd (bI_ne.mpr hb) h19) (fun h19 => ?_)
  refine W_ldc2 d_121_22 o_121 k_6_284 (v := (-12)) (by decide) ?_
  refine W_lret d_121_25 rt_121 ?_
  exact ⟨rfl, rfl⟩
theorem p_121p {d : Nat} {g : mG} {N : Nat} {A T K : Nat → tR} {B : tR} {E : Nat → Int32} {l : Int64} {G : tR} {Qm : Nat → mC} {r0 r1 : Nat} (e0 : r0 = 0) (e1 : r1 = 1) {v : Nat} (h12 : 12 ≤ v) (h17 : v ≤ 17) (hd : 4 ≤ d) : Ex d 121 [.ref 0, .int (nI v), .int 6] (N, H3 g (cc A T K B E l G) Qm) (some (.long ((A r0 9 (v - 12)).toInt64))) (N, H3 g (cc A T K B E l G) Qm) := by
  refine Ex.of ?_
  show Wp _ 121 0 [.ref 0, .int (nI v), .int 6] [] _ _
  refine W_iload_n d_121_0 rfl ?_
  refine W_bipush d_121_1 (v := 6) (by decide) ?_
  refine W_callS d_121_3 o_121 k_6_95 (by omega) x_126 rfl (Nat.le_of_ble_eq_true rfl) ?_
  refine W_if_ne (tgt := 13) d_121_6 (by decide) (fun h6 => ?_) (fun h6 => absurd h6 (fun q => bI_f q (by decide)))
  refine W_iload_n d_121_13 rfl ?_
  refine W_bipush d_121_14 (v := 17) (by decide) ?_
  refine W_callS d_121_16 o_121 k_6_95 (by omega) x_126 rfl (Nat.le_of_ble_eq_true rfl) ?_
  refine W_if_ne (tgt := 26) d_121_19 (by decide) (fun h19 => ?_) (fun h19 => absurd h19 (fun q => bI_f q ⟨nI_pos' (by omega), nI_le (a := v) (b := 17) (by omega) (by decide)⟩))
  refine W_iload_n d_121_26 rfl ?_
  refine W_bipush d_121_27 (v := 12) (by decide) ?_
  refine W_icmp_lt (tgt := 58) d_121_29 (by decide) (fun h29 => absurd h29 (nI_nlt (a := v) (b := 12) (by omega) (by omega))) (fun h29 => ?_)
  refine W_iload_n d_121_32 rfl ?_
  refine W_bipush d_121_33 (v := 6) (by decide) ?_
  refine W_icmp_ne (tgt := 54) d_121_35 (by decide) (fun h35 => absurd h35 (by decide)) (fun _ => ?_)
  refine W_aload_n d_121_38 rfl (by decide) ?_
  refine W_getf d_121_39 o_121 k_6_10 rfl rfl ?_
  show Wp _ _ _ _ (Value.ref (rb 0) :: _) _ _
  rw [show rb 0 = rb r0 from by rw [e0]]
  have hq0 : r0 < 3 := by omega
  refine W_getf d_121_42 o_121 k_6_135 (h_road (by assumption)) rfl ?_
  refine W_iload_n d_121_45 rfl ?_
  refine W_bipush d_121_46 (v := 12) (by decide) ?_
  refine W_isub d_121_48 ?_
  rw [show ((nI v - 12 : Int32)) = nI (v - 12) from pk_sub (a := v) (b := 12) (by omega)]
  refine W_iald d_121_49 (h_lies (by assumption)) (by decide) (vp_in_nI (by omega) (by decide)) (congrArg _ (nI_clamp (by omega))) ?_
  refine W_i2l d_121_50 ?_
  refine W_goto (tgt := 57) d_121_51 (by decide) ?_
  refine W_lret d_121_57 rt_121 ?_
  exact ⟨rfl, rfl⟩
theorem p_121n {d : Nat} {g : mG} {N : Nat} {A T K : Nat → tR} {B : tR} {E : Nat → Int32} {l : Int64} {G : tR} {Qm : Nat → mC} {r0 r1 : Nat} (e0 : r0 = 0) (e1 : r1 = 1) {v : Nat} {w : Int32} (hw : 0 ≤ w ∧ w ≤ 6) (h12 : 12 ≤ v) (h17 : v ≤ 17) (hn6 : ¬ w = 6) (hd : 4 ≤ d) : Ex d 121 [.ref 0, .int (nI v), .int w] (N, H3 g (cc A T K B E l G) Qm) (some (.long (-13))) (N, H3 g (cc A T K B E l G) Qm) := by
  refine Ex.of ?_
  show Wp _ 121 0 [.ref 0, .int (nI v), .int w] [] _ _
  refine W_iload_n d_121_0 rfl ?_
  refine W_bipush d_121_1 (v := 6) (by decide) ?_
  refine W_callS d_121_3 o_121 k_6_95 (by omega) x_126 rfl (Nat.le_of_ble_eq_true rfl) ?_
  refine W_if_ne (tgt := 13) d_121_6 (by decide) (fun h6 => ?_) (fun h6 => absurd h6 (fun q => bI_f q hw))
  refine W_iload_n d_121_13 rfl ?_
  refine W_bipush d_121_14 (v := 17) (by decide) ?_
  refine W_callS d_121_16 o_121 k_6_95 (by omega) x_126 rfl (Nat.le_of_ble_eq_true rfl) ?_
  refine W_if_ne (tgt := 26) d_121_19 (by decide) (fun h19 => ?_) (fun h19 => absurd h19 (fun q => bI_f q ⟨nI_pos' (by omega), nI_le (a := v) (b := 17) (by omega) (by decide)⟩))
  refine W_iload_n d_121_26 rfl ?_
  refine W_bipush d_121_27 (v := 12) (by decide) ?_
  refine W_icmp_lt (tgt := 58) d_121_29 (by decide) (fun h29 => absurd h29 (nI_nlt (a := v) (b := 12) (by omega) (by omega))) (fun h29 => ?_)
  refine W_iload_n d_121_32 rfl ?_
  refine W_bipush d_121_33 (v := 6) (by decide) ?_
  refine W_icmp_ne (tgt := 54) d_121_35 (by decide) (fun h35 => ?_) (fun h35 => absurd h35 hn6)
  refine W_ldc2 d_121_54 o_121 k_6_286 (v := (-13)) (by decide) ?_
  refine W_lret d_121_57 rt_121 ?_
  exact ⟨rfl, rfl⟩
theorem p_121o {d : Nat} {g : mG} {N : Nat} {A T K : Nat → tR} {B : tR} {E : Nat → Int32} {l : Int64} {G : tR} {Qm : Nat → mC} {r0 r1 : Nat} (e0 : r0 = 0) (e1 : r1 = 1) {v : Nat} {w : Int32} (hw : 0 ≤ w ∧ w ≤ 6) (h12 : v < 12) (hb : ¬ (0 ≤ nI v ∧ nI v < A r0 12 0)) (hd : 4 ≤ d) : Ex d 121 [.ref 0, .int (nI v), .int w] (N, H3 g (cc A T K B E l G) Qm) (some (.long (-11))) (N, H3 g (cc A T K B E l G) Qm) := by
  refine Ex.of ?_
  show Wp _ 121 0 [.ref 0, .int (nI v), .int w] [] _ _
  refine W_iload_n d_121_0 rfl ?_
  refine W_bipush d_121_1 (v := 6) (by decide) ?_
  refine W_callS d_121_3 o_121 k_6_95 (by omega) x_126 rfl (Nat.le_of_ble_eq_true rfl) ?_
  refine W_if_ne (tgt := 13) d_121_6 (by decide) (fun h6 => ?_) (fun h6 => absurd h6 (fun q => bI_f q hw))
  refine W_iload_n d_121_13 rfl ?_
  refine W_bipush d_121_14 (v := 17) (by decide) ?_
  refine W_callS d_121_16 o_121 k_6_95 (by omega) x_126 rfl (Nat.le_of_ble_eq_true rfl) ?_
  refine W_if_ne (tgt := 26) d_121_19 (by decide) (fun h19 => ?_) (fun h19 => absurd h19 (fun q => bI_f q ⟨nI_pos' (by omega), nI_le (a := v) (b := 17) (by omega) (by decide)⟩))
  refine W_iload_n d_121_26 rfl ?_
  refine W_bipush d_121_27 (v := 12) (by decide) ?_
  refine W_icmp_lt (tgt := 58) d_121_29 (by decide) (fun h29 => ?_) (fun h29 => absurd (nI_lt (a := v) (b := 12) (by omega) (by omega)) h29)
  refine W_aload_n d_121_58 rfl (by decide) ?_
  refine W_getf d_121_59 o_121 k_6_10 rfl rfl ?_
  show Wp _ _ _ _ (Value.ref (rb 0) :: _) _ _
  rw [show rb 0 = rb r0 from by rw [e0]]
  have hq0 : r0 < 3 := by omega
  refine W_iload_n d_121_62 rfl ?_
  refine W_callV d_121_63 o_121 (Or.inl k_6_103) (by omega) (x_56 (show r0 < 3 by omega)) rfl (mrecv_of (h_road (by assumption)) o_56.symm) rfl (Nat.le_of_ble_eq_true rfl) ?_
  refine W_if_ne (tgt := 73) d_121_66 (by decide) (fun h66 => absurd (bI_ne.mpr hb) h66) (fun h66 => ?_)
  refine W_ldc2 d_121_69 o_121 k_6_288 (v := (-11)) (by decide) ?_
  refine W_lret d_121_72 rt_121 ?_
  exact ⟨rfl, rfl⟩
theorem p_121 {d : Nat} {g : mG} {N : Nat} {A T K : Nat → tR} {B : tR} {E : Nat → Int32} {l : Int64} {G : tR} {Qm : Nat → mC} {r0 r1 : Nat} (e0 : r0 = 0) (e1 : r1 = 1) {n : Nat} (hn : A r0 12 0 = nI n) (hn12 : n ≤ 12) {v : Nat} {w : Int32} (hw : 0 ≤ w ∧ w ≤ 6) (hv : v < n) {k : Nat} (hk6 : k < 6) (hk : A r0 0 v = nI k) (hd : 4 ≤ d) : Ex d 121 [.ref 0, .int (nI v), .int w] (N, H3 g (cc A T K B E l G) Qm) (some (.long (if w ∈ kch k then (nI v).toInt64 else -13))) (N, H3 g (cc A T K B E l G) Qm) := by
  have hv12 : v < 12 := by omega
  refine Ex.of ?_
  show Wp _ 121 0 [.ref 0, .int (nI v), .int w] [] _ _
  refine W_iload_n d_121_0 rfl ?_
  refine W_bipush d_121_1 (v := 6) (by decide) ?_
  refine W_callS d_121_3 o_121 k_6_95 (by omega) x_126 rfl (Nat.le_of_ble_eq_true rfl) ?_
  refine W_if_ne (tgt := 13) d_121_6 (by decide) (fun h6 => ?_) (fun h6 => absurd h6 (fun q => bI_f q hw))
  refine W_iload_n d_121_13 rfl ?_
  refine W_bipush d_121_14 (v := 17) (by decide) ?_
  refine W_callS d_121_16 o_121 k_6_95 (by omega) x_126 rfl (Nat.le_of_ble_eq_true rfl) ?_
  refine W_if_ne (tgt := 26) d_121_19 (by decide) (fun h19 => ?_) (fun h19 => absurd h19 (fun q => bI_f q ⟨nI_pos' (by omega), nI_le (a := v) (b := 17) (by omega) (by decide)⟩))
  refine W_iload_n d_121_26 rfl ?_
  refine W_bipush d_121_27 (v := 12) (by decide) ?_
  refine W_icmp_lt (tgt := 58) d_121_29 (by decide) (fun h29 => ?_) (fun h29 => absurd (nI_lt (a := v) (b := 12) (by omega) (by omega)) h29)
  refine W_aload_n d_121_58 rfl (by decide) ?_
  refine W_getf d_121_59 o_121 k_6_10 rfl rfl ?_
  show Wp _ _ _ _ (Value.ref (rb 0) :: _) _ _
  rw [show rb 0 = rb r0 from by rw [e0]]
  have hq0 : r0 < 3 := by omega
  refine W_iload_n d_121_62 rfl ?_
  refine W_callV d_121_63 o_121 (Or.inl k_6_103) (by omega) (x_56 (show r0 < 3 by omega)) rfl (mrecv_of (h_road (by assumption)) o_56.symm) rfl (Nat.le_of_ble_eq_true rfl) ?_
  refine W_if_ne (tgt := 73) d_121_66 (by decide) (fun h66 => ?_) (fun h66 => absurd h66 (fun q => bI_f q ⟨nI_pos' (by omega), by rw [hn]; exact nI_lt hv (by omega)⟩))
  refine W_aload_n d_121_73 rfl (by decide) ?_
  refine W_getf d_121_74 o_121 k_6_10 rfl rfl ?_
  show Wp _ _ _ _ (Value.ref (rb 0) :: _) _ _
  rw [show rb 0 = rb r0 from by rw [e0]]
  have hq0 : r0 < 3 := by omega
  refine W_getf d_121_77 o_121 k_6_121 (h_road (by assumption)) rfl ?_
  refine W_iload_n d_121_80 rfl ?_
  refine W_aald d_121_81 (h_owners (by assumption)) (vp_in_nI (by omega) (by decide)) (owa_v (by omega)) ?_
  refine W_iload_n d_121_82 rfl ?_
  refine W_callV d_121_83 o_121 (Or.inl k_6_290) (by omega) (x_31 (show r0 < 3 by omega) (show v < 12 by omega) hk6 hk) rfl (mrecv_of (h_owner (by assumption) (by assumption)) o_31.symm) rfl (Nat.le_of_ble_eq_true rfl) ?_
  refine W_if_eq (tgt := 94) d_121_86 (by decide) (fun h86 => ?_) (fun h86 => ?_)
  · refine W_ldc2 d_121_94 o_121 k_6_286 (v := (-13)) (by decide) ?_
    refine W_lret d_121_97 rt_121 ?_
    exact ⟨congrArg (fun z => some (Value.long z)) (if_neg (bI_f h86)).symm, rfl⟩
  · refine W_iload_n d_121_89 rfl ?_
    refine W_i2l d_121_90 ?_
    refine W_goto (tgt := 97) d_121_91 (by decide) ?_
    refine W_lret d_121_97 rt_121 ?_
    exact ⟨congrArg (fun z => some (Value.long z)) (if_pos (bI_t h86)).symm, rfl⟩
def flK (K : Nat → tR) (s n : Nat) (W : Nat → Int32) : Nat → Nat → tR
  | 0 => shZ (u3 (u3 K s 1 0 1) s 1 1 (nI n)) s 40
  | i + 1 => u3 (flK K s n W i) s 0 i (W i).toInt16.toInt32
theorem flK_ap (K : Nat → tR) (s n : Nat) (W : Nat → Int32) (i s' a b : Nat) : flK K s n W i s' a b = if s' = s ∧ a = 0 ∧ b < i then (W b).toInt16.toInt32 else if s' = s ∧ a = 0 ∧ b < 40 then 0 else if s' = s ∧ a = 1 ∧ b = 1 then nI n else if s' = s ∧ a = 1 ∧ b = 0 then 1 else K s' a b := by
  induction i with
  | zero =>
    simp only [flK, shZ_ap, u3_ap]
    repeat' split
    all_goals first | rfl | (exfalso; omega)
  | succ i ih =>
    simp only [flK, u3_ap, ih]
    by_cases e : s' = s ∧ a = 0 ∧ b = i
    · rw [if_pos e, if_pos (by omega), e.2.2]
    · rw [if_neg e]
      by_cases e2 : s' = s ∧ a = 0 ∧ b < i
      · rw [if_pos e2, if_pos (by omega)]
      · rw [if_neg e2, if_neg (show ¬ (s' = s ∧ a = 0 ∧ b < i + 1) by omega)]
theorem lp_110 {d : Nat} {g : mG} {N : Nat} {A T K : Nat → tR} {B : tR} {E : Nat → Int32} {l : Int64} {G : tR} {Qm : Nat → mC} {r0 r1 : Nat} (e0 : r0 = 0) (e1 : r1 = 1) {n m : Nat} (hn1 : A r1 12 0 = nI n) (hn12 : n ≤ 12) {W : Nat → Int32} (hW : ∀ j, j < n → A r1 2 j = W j) {s : Nat} (hs : s < 4) (hd : 2 ≤ d) {Q : Option Value → mM → Prop} (kk : Wp d 110 85 [.ref 0, .int (nI s), .int (nI m), .ref (sb s), .int (nI n)] [] (N, H3 g (cc A T (flK K s n W n) B E l G) Qm) Q) : ∀ (k i : Nat), i + k = n → Wp d 110 48 [.ref 0, .int (nI s), .int (nI m), .ref (sb s), .int (nI i)] [] (N, H3 g (cc A T (flK K s n W i) B E l G) Qm) Q := by
  intro k
  induction k with
  | zero =>
    intro i hi
    have ei : i = n := by omega
    refine W_iload d_110_48 rfl ?_
    refine W_aload_n d_110_50 rfl (by decide) ?_
    refine W_getf d_110_51 o_110 k_6_16 rfl rfl ?_
    show Wp _ _ _ _ (Value.ref (rb 1) :: _) _ _
    rw [show rb 1 = rb r1 from by rw [e1]]
    have hq1 : r1 < 3 := by omega
    refine W_getf d_110_54 o_110 k_6_77 (h_road (by assumption)) rfl ?_
    rw [hn1]
    refine W_icmp_ge (tgt := 85) d_110_57 (by decide) (fun h57 => ?_) (fun h57 => absurd (nI_le (a := n) (b := i) (by omega) (by omega)) h57)
    rw [ei]
    exact kk
  | succ k ih =>
    intro i hi
    have hi12 : i < 12 := by omega
    refine W_iload d_110_48 rfl ?_
    refine W_aload_n d_110_50 rfl (by decide) ?_
    refine W_getf d_110_51 o_110 k_6_16 rfl rfl ?_
    show Wp _ _ _ _ (Value.ref (rb 1) :: _) _ _
    rw [show rb 1 = rb r1 from by rw [e1]]
    have hq1 : r1 < 3 := by omega
    refine W_getf d_110_54 o_110 k_6_77 (h_road (by assumption)) rfl ?_
    rw [hn1]
    refine W_icmp_ge (tgt := 85) d_110_57 (by decide) (fun h57 => absurd h57 (nI_ge (a := i) (b := n) (by omega) (by omega))) (fun h57 => ?_)
    refine W_aload_n d_110_60 rfl (sb_ne (by assumption)) ?_
    refine W_iload d_110_61 rfl ?_
    refine W_aload_n d_110_63 rfl (by decide) ?_
    refine W_getf d_110_64 o_110 k_6_16 rfl rfl ?_
    show Wp _ _ _ _ (Value.ref (rb 1) :: _) _ _
    rw [show rb 1 = rb r1 from by rw [e1]]
    have hq1 : r1 < 3 := by omega
    refine W_getf d_110_67 o_110 k_6_121 (h_road (by assumption)) rfl ?_
    refine W_iload d_110_70 rfl ?_
    refine W_aald d_110_72 (h_owners (by assumption)) (vp_in_nI (by omega) (by decide)) (owa_v (by omega)) ?_
    refine W_getf d_110_73 o_110 k_6_191 (h_owner (by assumption) (by assumption)) rfl ?_
    rw [hW i (by omega)]
    refine W_callV d_110_76 o_110 (Or.inl k_6_235) (by omega) (x_82 (by assumption) (show i < 40 by omega)) rfl (mrecv_of (h_sheet (by assumption)) o_82.symm) rfl (Nat.le_of_ble_eq_true rfl) ?_
    rw [show shv (flK K s n W i s 1 0) (W i) = (W i).toInt16.toInt32 from by rw [flK_ap, if_neg (by omega), if_neg (by omega), if_neg (by omega), if_pos ⟨rfl, rfl, rfl⟩]; rfl]
    refine W_iinc (v := 1) d_110_79 rfl (by decide) rfl ?_
    rw [show ((nI i + 1 : Int32)) = nI (i + 1) from nI_add i 1]
    refine W_goto (tgt := 48) d_110_82 (by decide) ?_
    exact ih (i + 1) (by omega)
theorem p_110 {d : Nat} {g : mG} {N : Nat} {A T K : Nat → tR} {B : tR} {E : Nat → Int32} {l : Int64} {G : tR} {Qm : Nat → mC} {r0 r1 : Nat} (e0 : r0 = 0) (e1 : r1 = 1) {z : Nat → Nat} {n p t : Nat} (hX : CX (A r0) T z n p t) {m : Nat} (hm : m ≤ 48) {s : Nat} (hs : s < 4) (hd : 9 ≤ d) : Wp d 110 0 (ment 110 [.ref 0, .int (nI s), .int (nI m)]) [] (N, H3 g (cc A T K B E l G) Qm) (fun v M' => v = some (.int (nI n)) ∧ ∃ A' l' G', M' = (N, H3 g (cc A' T (flK K s n (gon (A r0) (T t) z n p m 2) n) B E l' G') Qm) ∧ ∀ r, ¬ r = r1 → A' r = A r) := by
  obtain ⟨hn, hn12, hp, hp6, hlw, ht, hL⟩ := hX
  show Wp _ 110 0 [.ref 0, .int (nI s), .int (nI m), .null, .null] [] _ _
  refine W_iload_n d_110_0 rfl ?_
  refine W_callS d_110_1 o_110 k_6_229 (by omega) (x_133 (by omega)) rfl (Nat.le_of_ble_eq_true rfl) ?_
  refine W_if_eq (tgt := 14) d_110_4 (by decide) (fun h4 => absurd h4 (fun q => bI_f q ⟨nI_pos' (by omega), nI_le (a := s) (b := 3) (by omega) (by decide)⟩)) (fun h4 => ?_)
  refine W_iload_n d_110_7 rfl ?_
  refine W_callS d_110_8 o_110 k_6_167 (by omega) (x_130 (by omega)) rfl (Nat.le_of_ble_eq_true rfl) ?_
  refine W_if_ne (tgt := 17) d_110_11 (by decide) (fun h11 => ?_) (fun h11 => absurd h11 (fun q => bI_f q ⟨nI_pos' (by omega), nI_le (a := m) (b := 48) hm (by decide)⟩))
  refine W_aload_n d_110_17 rfl (by decide) ?_
  refine W_callV d_110_18 o_110 (Or.inl k_6_176) (by omega) (x_122 e0 e1 hn hn12 (by omega)) rfl (mrecv_of rfl o_122.symm) rfl (Nat.le_of_ble_eq_true rfl) ?_
  refine W_aload_n d_110_21 rfl (by decide) ?_
  refine W_iload_n d_110_22 rfl ?_
  refine W_callVG d_110_23 o_110 (Or.inl k_6_179) (by omega) (x_123 e0 e1 ht hL ((bkA_12 _ _ _ _ 0 (by decide)).trans hn) hn12 ((bkA_12 _ _ _ _ 1 (by decide)).trans hp) hp6 ((bkA_12 _ _ _ _ 4 (by decide)).trans hlw) (by omega) (by omega)) rfl (mrecv_of rfl o_123.symm) rfl (Nat.le_of_ble_eq_true rfl) (fun G' => ?_)
  have hq := th_eq (Lr := T t) (z := z) (A := A) (r0 := r0) (r1 := r1) (p := p) (by omega) hn12 hp6 hn m
  have hne : ∀ r, ¬ r = r1 → hrs (bkA A r1 r0 n) r1 (T t) z n p m r = A r := fun r hr => th_ne hr
  have hn1 : hrs (bkA A r1 r0 n) r1 (T t) z n p m r1 12 0 = nI n := (hrs_ap _ _ _ _ _ _ _ _ (by decide) _).trans ((bkA_12 _ _ _ _ 0 (by decide)).trans hn)
  generalize hrs (bkA A r1 r0 n) r1 (T t) z n p m = A2 at hq hne hn1 ⊢
  refine W_aload_n d_110_26 rfl (by decide) ?_
  refine W_getf d_110_27 o_110 k_6_37 rfl rfl ?_
  refine W_iload_n d_110_30 rfl ?_
  refine W_aald d_110_31 rfl (vp_in_nI (by omega) (by decide)) (sha_v (by omega)) ?_
  refine W_astore_n d_110_32 (sb_ne (by assumption)) rfl ?_
  refine W_aload_n d_110_33 rfl (sb_ne (by assumption)) ?_
  refine W_iconst d_110_34 (v := 1) (by decide) ?_
  refine W_aload_n d_110_35 rfl (by decide) ?_
  refine W_getf d_110_36 o_110 k_6_16 rfl rfl ?_
  show Wp _ _ _ _ (Value.ref (rb 1) :: _) _ _
  rw [show rb 1 = rb r1 from by rw [e1]]
  have hq1 : r1 < 3 := by omega
  refine W_getf d_110_39 o_110 k_6_77 (h_road (by assumption)) rfl ?_
  rw [hn1]
  refine W_callV d_110_42 o_110 (Or.inl k_6_232) (by omega) (x_79 (by assumption)) rfl (mrecv_of (h_sheet (by assumption)) o_79.symm) rfl (Nat.le_of_ble_eq_true rfl) ?_
  refine W_iconst d_110_45 (v := 0) (by decide) ?_
  refine W_istore d_110_46 rfl ?_
  refine lp_110 (W := gon (A r0) (T t) z n p m 2) e0 e1 hn1 hn12 (fun j hj => hq.lo (a := 2) (b := j) (by decide) hj) hs (by omega) ?_ n 0 (by omega)
  refine W_aload_n d_110_85 rfl (by decide) ?_
  refine W_getf d_110_86 o_110 k_6_16 rfl rfl ?_
  show Wp _ _ _ _ (Value.ref (rb 1) :: _) _ _
  rw [show rb 1 = rb r1 from by rw [e1]]
  have hq1 : r1 < 3 := by omega
  refine W_getf d_110_89 o_110 k_6_77 (h_road (by assumption)) rfl ?_
  rw [hn1]
  refine W_iret d_110_92 rt_110 rfl ?_
  exact ⟨rfl, A2, _, _, rfl, hne⟩
theorem p_110a {d : Nat} {g : mG} {N : Nat} {A T K : Nat → tR} {B : tR} {E : Nat → Int32} {l : Int64} {G : tR} {Qm : Nat → mC} {r0 r1 : Nat} (e0 : r0 = 0) (e1 : r1 = 1) {v w : Int32} (hb : ¬ ((0 ≤ v ∧ v ≤ 3) ∧ (0 ≤ w ∧ w ≤ 48))) (hd : 4 ≤ d) : Ex d 110 [.ref 0, .int v, .int w] (N, H3 g (cc A T K B E l G) Qm) (some (.int (-2))) (N, H3 g (cc A T K B E l G) Qm) := by
  refine Ex.of ?_
  show Wp _ 110 0 [.ref 0, .int v, .int w, .null, .null] [] _ _
  refine W_iload_n d_110_0 rfl ?_
  refine W_callS d_110_1 o_110 k_6_229 (by omega) (x_133 (by omega)) rfl (Nat.le_of_ble_eq_true rfl) ?_
  refine W_if_eq (tgt := 14) d_110_4 (by decide) (fun h4 => ?_) (fun h4 => ?_)
  · refine W_bipush d_110_14 (v := (-2)) (by decide) ?_
    refine W_iret d_110_16 rt_110 rfl ?_
    exact ⟨rfl, rfl⟩
  · refine W_iload_n d_110_7 rfl ?_
    refine W_callS d_110_8 o_110 k_6_167 (by omega) (x_130 (by omega)) rfl (Nat.le_of_ble_eq_true rfl) ?_
    refine W_if_ne (tgt := 17) d_110_11 (by decide) (fun h11 => ?_) (fun h11 => ?_)
    · exact (hb ⟨bI_t h4, bI_t h11⟩).elim
    · refine W_bipush d_110_14 (v := (-2)) (by decide) ?_
      refine W_iret d_110_16 rt_110 rfl ?_
      exact ⟨rfl, rfl⟩
theorem most1 {c : Nat} (h : c ≤ 99) : ¬ (nI c + 1).toInt64 = 0 := by
  rw [← nI_succ, nI_l (by omega)]
  intro q
  have := (lN_eq (a := c + 1) (b := 0) (by omega) (by omega)).mp q
  omega
theorem p_112 {d : Nat} {g : mG} {N : Nat} {A T K : Nat → tR} {B : tR} {E : Nat → Int32} {l : Int64} {G : tR} {Qm : Nat → mC} {r0 r1 : Nat} (e0 : r0 = 0) (e1 : r1 = 1) {z : Nat → Nat} {n p t : Nat} (hX : CX (A r0) T z n p t) {m : Nat} (hm : m ≤ 48) {sd : Int32} (hsd : 0 ≤ sd ∧ sd ≤ 99999) {mw : Nat} (hmw : mw ≤ 999) (hm4 : mw % 10 ≤ 4) (hd : 9 ≤ d) : Wp d 112 0 (ment 112 [.ref 0, .int sd, .int (nI m), .int (nI mw)]) [] (N, H3 g (cc A T K B E l G) Qm) (fun v M' => v = some (.int (ans_ (win (A r0) (sd.toInt64 + 1) (T t) z n p (nI (mw / 10)) m) n (nI (mw % 10)))) ∧ ∃ A' l' G', M' = (N, H3 g (cc A' T K B E l' G') Qm) ∧ ∀ r, ¬ r = r1 → A' r = A r) := by
  obtain ⟨hn, hn12, hp, hp6, hlw, ht, hL⟩ := hX
  show Wp _ 112 0 [.ref 0, .int sd, .int (nI m), .int (nI mw)] [] _ _
  refine W_iload_n d_112_0 rfl ?_
  refine W_ldcI d_112_1 o_112 k_6_243 (v := 99999) (by decide) ?_
  refine W_callS d_112_3 o_112 k_6_95 (by omega) x_126 rfl (Nat.le_of_ble_eq_true rfl) ?_
  refine W_if_eq (tgt := 16) d_112_6 (by decide) (fun h6 => absurd h6 (fun q => bI_f q hsd)) (fun h6 => ?_)
  refine W_iload_n d_112_9 rfl ?_
  refine W_callS d_112_10 o_112 k_6_167 (by omega) (x_130 (by omega)) rfl (Nat.le_of_ble_eq_true rfl) ?_
  refine W_if_ne (tgt := 19) d_112_13 (by decide) (fun h13 => ?_) (fun h13 => absurd h13 (fun q => bI_f q ⟨nI_pos' (by omega), nI_le (a := m) (b := 48) hm (by decide)⟩))
  refine W_iload_n d_112_19 rfl ?_
  refine W_sipush d_112_20 (v := 999) (by decide) ?_
  refine W_callS d_112_23 o_112 k_6_95 (by omega) x_126 rfl (Nat.le_of_ble_eq_true rfl) ?_
  refine W_if_eq (tgt := 39) d_112_26 (by decide) (fun h26 => absurd h26 (fun q => bI_f q ⟨nI_pos' (by omega), nI_le (a := mw) (b := 999) hmw (by decide)⟩)) (fun h26 => ?_)
  refine W_iload_n d_112_29 rfl ?_
  refine W_bipush d_112_30 (v := 10) (by decide) ?_
  refine W_irem d_112_32 (by decide) ?_
  rw [show ((nI mw - nI mw / 10 * 10 : Int32)) = nI (mw % 10) from pk_rem (a := mw) (d := 10) (by omega) (by decide) (by decide)]
  refine W_callS d_112_33 o_112 k_6_170 (by omega) (x_131 (by omega)) rfl (Nat.le_of_ble_eq_true rfl) ?_
  refine W_if_ne (tgt := 42) d_112_36 (by decide) (fun h36 => ?_) (fun h36 => absurd h36 (fun q => bI_f q ⟨nI_pos' (by omega), nI_le (a := mw % 10) (b := 4) hm4 (by decide)⟩))
  refine W_aload_n d_112_42 rfl (by decide) ?_
  refine W_iload_n d_112_43 rfl ?_
  refine W_iload_n d_112_44 rfl ?_
  refine W_iload_n d_112_45 rfl ?_
  refine W_bipush d_112_46 (v := 10) (by decide) ?_
  refine W_idiv d_112_48 (by decide) ?_
  rw [show ((nI mw / 10 : Int32)) = nI (mw / 10) from pk_div (a := mw) (d := 10) (by omega) (by decide) (by decide)]
  refine W_callVG d_112_49 o_112 (Or.inl k_6_244) (by omega) (x_125 e0 e1 ht hL hn hn12 hp hp6 hlw (m := m) (by omega) (sd := sd) (most := nI (mw / 10)) (most1 (by omega)) (by omega)) rfl (mrecv_of rfl o_125.symm) rfl (Nat.le_of_ble_eq_true rfl) (fun G' => ?_)
  have hq := thw_eq (Lr := T t) (z := z) (A := A) (r0 := r0) (r1 := r1) (p := p) (by omega) hn12 hp6 hn m (l := sd.toInt64 + 1) (most := nI (mw / 10))
  have hne : ∀ r, ¬ r = r1 → (wns (bkA A r1 r0 n) r1 (sd.toInt64 + 1) (T t) z n p (nI (mw / 10)) m).1 r = A r := fun r hr => thw_ne hr
  have hn1 : (wns (bkA A r1 r0 n) r1 (sd.toInt64 + 1) (T t) z n p (nI (mw / 10)) m).1 r1 12 0 = nI n := (wns_ap _ _ _ _ _ _ _ _ _ _ (by decide) _).trans ((bkA_12 _ _ _ _ 0 (by decide)).trans hn)
  generalize (wns (bkA A r1 r0 n) r1 (sd.toInt64 + 1) (T t) z n p (nI (mw / 10)) m) = A2 at hq hne hn1 ⊢
  refine W_aload_n d_112_52 rfl (by decide) ?_
  refine W_getf d_112_53 o_112 k_6_16 rfl rfl ?_
  show Wp _ _ _ _ (Value.ref (rb 1) :: _) _ _
  rw [show rb 1 = rb r1 from by rw [e1]]
  have hq1 : r1 < 3 := by omega
  refine W_iload_n d_112_56 rfl ?_
  refine W_bipush d_112_57 (v := 10) (by decide) ?_
  refine W_irem d_112_59 (by decide) ?_
  rw [show ((nI mw - nI mw / 10 * 10 : Int32)) = nI (mw % 10) from pk_rem (a := mw) (d := 10) (by omega) (by decide) (by decide)]
  refine W_callV d_112_60 o_112 (Or.inl k_6_182) (by omega) (x_70 (show r1 < 3 by omega) hn1 hn12 (by omega)) rfl (mrecv_of (h_road (by assumption)) o_70.symm) rfl (Nat.le_of_ble_eq_true rfl) ?_
  refine W_iret d_112_63 rt_112 rfl ?_
  exact ⟨congrArg (fun z => some (Value.int z)) (hq.ans _), A2.1, _, _, rfl, hne⟩
theorem p_112a {d : Nat} {g : mG} {N : Nat} {A T K : Nat → tR} {B : tR} {E : Nat → Int32} {l : Int64} {G : tR} {Qm : Nat → mC} {r0 r1 : Nat} (e0 : r0 = 0) (e1 : r1 = 1) {v w u : Int32} (hb : ¬ ((0 ≤ v ∧ v ≤ 99999) ∧ (0 ≤ w ∧ w ≤ 48) ∧ (0 ≤ u ∧ u ≤ 999) ∧ (0 ≤ i_mod u 10 ∧ i_mod u 10 ≤ 4))) (hd : 4 ≤ d) : Ex d 112 [.ref 0, .int v, .int w, .int u] (N, H3 g (cc A T K B E l G) Qm) (some (.int (-2))) (N, H3 g (cc A T K B E l G) Qm) := by
  refine Ex.of ?_
  show Wp _ 112 0 [.ref 0, .int v, .int w, .int u] [] _ _
  refine W_iload_n d_112_0 rfl ?_
  refine W_ldcI d_112_1 o_112 k_6_243 (v := 99999) (by decide) ?_
  refine W_callS d_112_3 o_112 k_6_95 (by omega) x_126 rfl (Nat.le_of_ble_eq_true rfl) ?_
  refine W_if_eq (tgt := 16) d_112_6 (by decide) (fun h6 => ?_) (fun h6 => ?_)
  · refine W_bipush d_112_16 (v := (-2)) (by decide) ?_
    refine W_iret d_112_18 rt_112 rfl ?_
    exact ⟨rfl, rfl⟩
  · refine W_iload_n d_112_9 rfl ?_
    refine W_callS d_112_10 o_112 k_6_167 (by omega) (x_130 (by omega)) rfl (Nat.le_of_ble_eq_true rfl) ?_
    refine W_if_ne (tgt := 19) d_112_13 (by decide) (fun h13 => ?_) (fun h13 => ?_)
    · refine W_iload_n d_112_19 rfl ?_
      refine W_sipush d_112_20 (v := 999) (by decide) ?_
      refine W_callS d_112_23 o_112 k_6_95 (by omega) x_126 rfl (Nat.le_of_ble_eq_true rfl) ?_
      refine W_if_eq (tgt := 39) d_112_26 (by decide) (fun h26 => ?_) (fun h26 => ?_)
      · refine W_bipush d_112_39 (v := (-2)) (by decide) ?_
        refine W_iret d_112_41 rt_112 rfl ?_
        exact ⟨rfl, rfl⟩
      · refine W_iload_n d_112_29 rfl ?_
        refine W_bipush d_112_30 (v := 10) (by decide) ?_
        refine W_irem d_112_32 (by decide) ?_
        refine W_callS d_112_33 o_112 k_6_170 (by omega) (x_131 (by omega)) rfl (Nat.le_of_ble_eq_true rfl) ?_
        refine W_if_ne (tgt := 42) d_112_36 (by decide) (fun h36 => ?_) (fun h36 => ?_)
        · exact (hb ⟨bI_t h6, bI_t h13, bI_t h26, bI_t h36⟩).elim
        · refine W_bipush d_112_39 (v := (-2)) (by decide) ?_
          refine W_iret d_112_41 rt_112 rfl ?_
          exact ⟨rfl, rfl⟩
    · refine W_bipush d_112_16 (v := (-2)) (by decide) ?_
      refine W_iret d_112_18 rt_112 rfl ?_
      exact ⟨rfl, rfl⟩
