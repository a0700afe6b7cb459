/-! THE CLASS: put .. copy (wip/whole/gen36.py) -/
def mput_ (w : Int32) : Int32 := if w = 2 then 99 else if w = 3 then 23 else if w = 4 then 1 else 999
theorem w04 {w : Int32} (h : 0 ≤ w ∧ w ≤ 4) : w = 0 ∨ w = 1 ∨ w = 2 ∨ w = 3 ∨ w = 4 := by
  simp only [← Int32.toInt_inj, Int32.le_iff_toInt_le, show (0 : Int32).toInt = 0 from rfl, show (1 : Int32).toInt = 1 from rfl, show (2 : Int32).toInt = 2 from rfl, show (3 : Int32).toInt = 3 from rfl, show (4 : Int32).toInt = 4 from rfl] at *
  omega
theorem p_91a {d : Nat} {g : mG} {N : Nat} {A T K : Nat → tR} {B : tR} {E : Nat → Int32} {l : Int64} {G : tR} {Qm : Nat → mC} {r0 r1 : Nat} (e0 : r0 = 0) (e1 : r1 = 1) {v w u : Int32} (hb : ¬ (0 ≤ v ∧ v < A r0 12 0)) (hd : 4 ≤ d) : Ex d 91 [.ref 0, .int v, .int w, .int u] (N, H3 g (cc A T K B E l G) Qm) (some (.int (-5))) (N, H3 g (cc A T K B E l G) Qm) := by
  refine Ex.of ?_
  show Wp _ 91 0 [.ref 0, .int v, .int w, .int u, .null, .null] [] _ _
  refine W_aload_n d_91_0 rfl (by decide) ?_
  refine W_getf d_91_1 o_91 k_6_10 rfl rfl ?_
  show Wp _ _ _ _ (Value.ref (rb 0) :: _) _ _
  rw [show rb 0 = rb r0 from by rw [e0]]
  have hq0 : r0 < 3 := by omega
  refine W_iload_n d_91_4 rfl ?_
  refine W_callV d_91_5 o_91 (Or.inl k_6_103) (by omega) (x_56 (show r0 < 3 by omega)) rfl (mrecv_of (h_road (by assumption)) o_56.symm) rfl (Nat.le_of_ble_eq_true rfl) ?_
  refine W_if_ne (tgt := 14) d_91_8 (by decide) (fun h8 => absurd (bI_ne.mpr hb) h8) (fun h8 => ?_)
  refine W_bipush d_91_11 (v := (-5)) (by decide) ?_
  refine W_iret d_91_13 rt_91 rfl ?_
  exact ⟨rfl, rfl⟩
theorem p_91_0 {d : Nat} {g : mG} {N : Nat} {A T K : Nat → tR} {B : tR} {E : Nat → Int32} {l : Int64} {G : tR} {Qm : Nat → mC} {r0 r1 : Nat} (e0 : r0 = 0) (e1 : r1 = 1) {n : Nat} (hn : A r0 12 0 = nI n) (hn12 : n ≤ 12) {j : Nat} (hj : j < n) {v : Int32} (hv : 0 ≤ v ∧ v ≤ 999) (hd : 4 ≤ d) : Ex d 91 [.ref 0, .int (nI j), .int 0, .int v] (N, H3 g (cc A T K B E l G) Qm) (some (.int (onum (A r0) j 0))) (N, H3 g (cc (ochg A r0 j 0 v) T K B E l G) Qm) := by
  have hj12 : j < 12 := by omega
  refine Ex.of ?_
  show Wp _ 91 0 [.ref 0, .int (nI j), .int 0, .int v, .null, .null] [] _ _
  refine W_aload_n d_91_0 rfl (by decide) ?_
  refine W_getf d_91_1 o_91 k_6_10 rfl rfl ?_
  show Wp _ _ _ _ (Value.ref (rb 0) :: _) _ _
  rw [show rb 0 = rb r0 from by rw [e0]]
  have hq0 : r0 < 3 := by omega
  refine W_iload_n d_91_4 rfl ?_
  refine W_callV d_91_5 o_91 (Or.inl k_6_103) (by omega) (x_56 (show r0 < 3 by omega)) rfl (mrecv_of (h_road (by assumption)) o_56.symm) rfl (Nat.le_of_ble_eq_true rfl) ?_
  refine W_if_ne (tgt := 14) d_91_8 (by decide) (fun h8 => ?_) (fun h8 => absurd h8 (fun q => bI_f q ⟨nI_pos' (by omega), by rw [hn]; exact nI_lt hj (by omega)⟩))
  refine W_iload_n d_91_14 rfl ?_
  refine W_if_lt (tgt := 38) d_91_15 (by decide) (fun h15 => absurd h15 (by decide)) (fun _ => ?_)
  refine W_iload_n d_91_18 rfl ?_
  refine W_gets d_91_19 o_91 k_6_117 rfl ?_
  refine W_alen (n := 5) (v := 5) d_91_22 rfl (by decide) ?_
  refine W_icmp_ge (tgt := 38) d_91_23 (by decide) (fun h23 => absurd h23 (by decide)) (fun _ => ?_)
  refine W_iload_n d_91_26 rfl ?_
  refine W_gets d_91_27 o_91 k_6_117 rfl ?_
  refine W_iload_n d_91_30 rfl ?_
  refine W_iald d_91_31 rfl (by decide) (vp_in_nI (n := 0) (by decide) (by decide)) (show _ = (999 : Int32) from by decide) ?_
  refine W_callS d_91_32 o_91 k_6_95 (by omega) x_126 rfl (Nat.le_of_ble_eq_true rfl) ?_
  refine W_if_ne (tgt := 41) d_91_35 (by decide) (fun h35 => ?_) (fun h35 => absurd h35 (fun q => bI_f q hv))
  refine W_aload_n d_91_41 rfl (by decide) ?_
  refine W_getf d_91_42 o_91 k_6_10 rfl rfl ?_
  show Wp _ _ _ _ (Value.ref (rb 0) :: _) _ _
  rw [show rb 0 = rb r0 from by rw [e0]]
  have hq0 : r0 < 3 := by omega
  refine W_getf d_91_45 o_91 k_6_121 (h_road (by assumption)) rfl ?_
  refine W_iload_n d_91_48 rfl ?_
  refine W_aald d_91_49 (h_owners (by assumption)) (vp_in_nI (by omega) (by decide)) (owa_v (by omega)) ?_
  refine W_astore d_91_50 (ow_ne (by assumption) (by assumption)) rfl ?_
  have hj12 : j < 12 := by omega
  refine W_aload d_91_52 rfl (ow_ne (by assumption) (by assumption)) ?_
  refine W_iload_n d_91_54 rfl ?_
  refine W_callV d_91_55 o_91 (Or.inl k_6_125) (by omega) (x_28 (show r0 < 3 by omega) (by omega)) rfl (mrecv_of (h_owner (by assumption) (by assumption)) o_28.symm) rfl (Nat.le_of_ble_eq_true rfl) ?_
  refine W_istore d_91_58 rfl ?_
  refine W_aload d_91_60 rfl (ow_ne (by assumption) (by assumption)) ?_
  refine W_iload_n d_91_62 rfl ?_
  refine W_iload_n d_91_63 rfl ?_
  refine W_callV d_91_64 o_91 (Or.inl k_6_131) (by omega) (x_29 (show r0 < 3 by omega) (by omega)) rfl (mrecv_of (h_owner (by assumption) (by assumption)) o_29.symm) rfl (Nat.le_of_ble_eq_true rfl) ?_
  refine W_iload d_91_67 rfl ?_
  refine W_iret d_91_69 rt_91 rfl ?_
  exact ⟨rfl, rfl⟩
theorem p_91_0n {d : Nat} {g : mG} {N : Nat} {A T K : Nat → tR} {B : tR} {E : Nat → Int32} {l : Int64} {G : tR} {Qm : Nat → mC} {r0 r1 : Nat} (e0 : r0 = 0) (e1 : r1 = 1) {n : Nat} (hn : A r0 12 0 = nI n) (hn12 : n ≤ 12) {j : Nat} (hj : j < n) {v : Int32} (hv : ¬ (0 ≤ v ∧ v ≤ 999)) (hd : 4 ≤ d) : Ex d 91 [.ref 0, .int (nI j), .int 0, .int v] (N, H3 g (cc A T K B E l G) Qm) (some (.int (-7))) (N, H3 g (cc A T K B E l G) Qm) := by
  refine Ex.of ?_
  show Wp _ 91 0 [.ref 0, .int (nI j), .int 0, .int v, .null, .null] [] _ _
  refine W_aload_n d_91_0 rfl (by decide) ?_
  refine W_getf d_91_1 o_91 k_6_10 rfl rfl ?_
  show Wp _ _ _ _ (Value.ref (rb 0) :: _) _ _
  rw [show rb 0 = rb r0 from by rw [e0]]
  have hq0 : r0 < 3 := by omega
  refine W_iload_n d_91_4 rfl ?_
  refine W_callV d_91_5 o_91 (Or.inl k_6_103) (by omega) (x_56 (show r0 < 3 by omega)) rfl (mrecv_of (h_road (by assumption)) o_56.symm) rfl (Nat.le_of_ble_eq_true rfl) ?_
  refine W_if_ne (tgt := 14) d_91_8 (by decide) (fun h8 => ?_) (fun h8 => absurd h8 (fun q => bI_f q ⟨nI_pos' (by omega), by rw [hn]; exact nI_lt hj (by omega)⟩))
  refine W_iload_n d_91_14 rfl ?_
  refine W_if_lt (tgt := 38) d_91_15 (by decide) (fun h15 => absurd h15 (by decide)) (fun _ => ?_)
  refine W_iload_n d_91_18 rfl ?_
  refine W_gets d_91_19 o_91 k_6_117 rfl ?_
  refine W_alen (n := 5) (v := 5) d_91_22 rfl (by decide) ?_
  refine W_icmp_ge (tgt := 38) d_91_23 (by decide) (fun h23 => absurd h23 (by decide)) (fun _ => ?_)
  refine W_iload_n d_91_26 rfl ?_
  refine W_gets d_91_27 o_91 k_6_117 rfl ?_
  refine W_iload_n d_91_30 rfl ?_
  refine W_iald d_91_31 rfl (by decide) (vp_in_nI (n := 0) (by decide) (by decide)) (show _ = (999 : Int32) from by decide) ?_
  refine W_callS d_91_32 o_91 k_6_95 (by omega) x_126 rfl (Nat.le_of_ble_eq_true rfl) ?_
  refine W_if_ne (tgt := 41) d_91_35 (by decide) (fun h35 => absurd (bI_ne.mpr hv) h35) (fun h35 => ?_)
  refine W_bipush d_91_38 (v := (-7)) (by decide) ?_
  refine W_iret d_91_40 rt_91 rfl ?_
  exact ⟨rfl, rfl⟩
theorem p_91_1 {d : Nat} {g : mG} {N : Nat} {A T K : Nat → tR} {B : tR} {E : Nat → Int32} {l : Int64} {G : tR} {Qm : Nat → mC} {r0 r1 : Nat} (e0 : r0 = 0) (e1 : r1 = 1) {n : Nat} (hn : A r0 12 0 = nI n) (hn12 : n ≤ 12) {j : Nat} (hj : j < n) {v : Int32} (hv : 0 ≤ v ∧ v ≤ 999) (hd : 4 ≤ d) : Ex d 91 [.ref 0, .int (nI j), .int 1, .int v] (N, H3 g (cc A T K B E l G) Qm) (some (.int (onum (A r0) j 1))) (N, H3 g (cc (ochg A r0 j 1 v) T K B E l G) Qm) := by
  have hj12 : j < 12 := by omega
  refine Ex.of ?_
  show Wp _ 91 0 [.ref 0, .int (nI j), .int 1, .int v, .null, .null] [] _ _
  refine W_aload_n d_91_0 rfl (by decide) ?_
  refine W_getf d_91_1 o_91 k_6_10 rfl rfl ?_
  show Wp _ _ _ _ (Value.ref (rb 0) :: _) _ _
  rw [show rb 0 = rb r0 from by rw [e0]]
  have hq0 : r0 < 3 := by omega
  refine W_iload_n d_91_4 rfl ?_
  refine W_callV d_91_5 o_91 (Or.inl k_6_103) (by omega) (x_56 (show r0 < 3 by omega)) rfl (mrecv_of (h_road (by assumption)) o_56.symm) rfl (Nat.le_of_ble_eq_true rfl) ?_
  refine W_if_ne (tgt := 14) d_91_8 (by decide) (fun h8 => ?_) (fun h8 => absurd h8 (fun q => bI_f q ⟨nI_pos' (by omega), by rw [hn]; exact nI_lt hj (by omega)⟩))
  refine W_iload_n d_91_14 rfl ?_
  refine W_if_lt (tgt := 38) d_91_15 (by decide) (fun h15 => absurd h15 (by decide)) (fun _ => ?_)
  refine W_iload_n d_91_18 rfl ?_
  refine W_gets d_91_19 o_91 k_6_117 rfl ?_
  refine W_alen (n := 5) (v := 5) d_91_22 rfl (by decide) ?_
  refine W_icmp_ge (tgt := 38) d_91_23 (by decide) (fun h23 => absurd h23 (by decide)) (fun _ => ?_)
  refine W_iload_n d_91_26 rfl ?_
  refine W_gets d_91_27 o_91 k_6_117 rfl ?_
  refine W_iload_n d_91_30 rfl ?_
  refine W_iald d_91_31 rfl (by decide) (vp_in_nI (n := 1) (by decide) (by decide)) (show _ = (999 : Int32) from by decide) ?_
  refine W_callS d_91_32 o_91 k_6_95 (by omega) x_126 rfl (Nat.le_of_ble_eq_true rfl) ?_
  refine W_if_ne (tgt := 41) d_91_35 (by decide) (fun h35 => ?_) (fun h35 => absurd h35 (fun q => bI_f q hv))
  refine W_aload_n d_91_41 rfl (by decide) ?_
  refine W_getf d_91_42 o_91 k_6_10 rfl rfl ?_
  show Wp _ _ _ _ (Value.ref (rb 0) :: _) _ _
  rw [show rb 0 = rb r0 from by rw [e0]]
  have hq0 : r0 < 3 := by omega
  refine W_getf d_91_45 o_91 k_6_121 (h_road (by assumption)) rfl ?_
  refine W_iload_n d_91_48 rfl ?_
  refine W_aald d_91_49 (h_owners (by assumption)) (vp_in_nI (by omega) (by decide)) (owa_v (by omega)) ?_
  refine W_astore d_91_50 (ow_ne (by assumption) (by assumption)) rfl ?_
  have hj12 : j < 12 := by omega
  refine W_aload d_91_52 rfl (ow_ne (by assumption) (by assumption)) ?_
  refine W_iload_n d_91_54 rfl ?_
  refine W_callV d_91_55 o_91 (Or.inl k_6_125) (by omega) (x_28 (show r0 < 3 by omega) (by omega)) rfl (mrecv_of (h_owner (by assumption) (by assumption)) o_28.symm) rfl (Nat.le_of_ble_eq_true rfl) ?_
  refine W_istore d_91_58 rfl ?_
  refine W_aload d_91_60 rfl (ow_ne (by assumption) (by assumption)) ?_
  refine W_iload_n d_91_62 rfl ?_
  refine W_iload_n d_91_63 rfl ?_
  refine W_callV d_91_64 o_91 (Or.inl k_6_131) (by omega) (x_29 (show r0 < 3 by omega) (by omega)) rfl (mrecv_of (h_owner (by assumption) (by assumption)) o_29.symm) rfl (Nat.le_of_ble_eq_true rfl) ?_
  refine W_iload d_91_67 rfl ?_
  refine W_iret d_91_69 rt_91 rfl ?_
  exact ⟨rfl, rfl⟩
theorem p_91_1n {d : Nat} {g : mG} {N : Nat} {A T K : Nat → tR} {B : tR} {E : Nat → Int32} {l : Int64} {G : tR} {Qm : Nat → mC} {r0 r1 : Nat} (e0 : r0 = 0) (e1 : r1 = 1) {n : Nat} (hn : A r0 12 0 = nI n) (hn12 : n ≤ 12) {j : Nat} (hj : j < n) {v : Int32} (hv : ¬ (0 ≤ v ∧ v ≤ 999)) (hd : 4 ≤ d) : Ex d 91 [.ref 0, .int (nI j), .int 1, .int v] (N, H3 g (cc A T K B E l G) Qm) (some (.int (-7))) (N, H3 g (cc A T K B E l G) Qm) := by
  refine Ex.of ?_
  show Wp _ 91 0 [.ref 0, .int (nI j), .int 1, .int v, .null, .null] [] _ _
  refine W_aload_n d_91_0 rfl (by decide) ?_
  refine W_getf d_91_1 o_91 k_6_10 rfl rfl ?_
  show Wp _ _ _ _ (Value.ref (rb 0) :: _) _ _
  rw [show rb 0 = rb r0 from by rw [e0]]
  have hq0 : r0 < 3 := by omega
  refine W_iload_n d_91_4 rfl ?_
  refine W_callV d_91_5 o_91 (Or.inl k_6_103) (by omega) (x_56 (show r0 < 3 by omega)) rfl (mrecv_of (h_road (by assumption)) o_56.symm) rfl (Nat.le_of_ble_eq_true rfl) ?_
  refine W_if_ne (tgt := 14) d_91_8 (by decide) (fun h8 => ?_) (fun h8 => absurd h8 (fun q => bI_f q ⟨nI_pos' (by omega), by rw [hn]; exact nI_lt hj (by omega)⟩))
  refine W_iload_n d_91_14 rfl ?_
  refine W_if_lt (tgt := 38) d_91_15 (by decide) (fun h15 => absurd h15 (by decide)) (fun _ => ?_)
  refine W_iload_n d_91_18 rfl ?_
  refine W_gets d_91_19 o_91 k_6_117 rfl ?_
  refine W_alen (n := 5) (v := 5) d_91_22 rfl (by decide) ?_
  refine W_icmp_ge (tgt := 38) d_91_23 (by decide) (fun h23 => absurd h23 (by decide)) (fun _ => ?_)
  refine W_iload_n d_91_26 rfl ?_
  refine W_gets d_91_27 o_91 k_6_117 rfl ?_
  refine W_iload_n d_91_30 rfl ?_
  refine W_iald d_91_31 rfl (by decide) (vp_in_nI (n := 1) (by decide) (by decide)) (show _ = (999 : Int32) from by decide) ?_
  refine W_callS d_91_32 o_91 k_6_95 (by omega) x_126 rfl (Nat.le_of_ble_eq_true rfl) ?_
  refine W_if_ne (tgt := 41) d_91_35 (by decide) (fun h35 => absurd (bI_ne.mpr hv) h35) (fun h35 => ?_)
  refine W_bipush d_91_38 (v := (-7)) (by decide) ?_
  refine W_iret d_91_40 rt_91 rfl ?_
  exact ⟨rfl, rfl⟩
theorem p_91_2 {d : Nat} {g : mG} {N : Nat} {A T K : Nat → tR} {B : tR} {E : Nat → Int32} {l : Int64} {G : tR} {Qm : Nat → mC} {r0 r1 : Nat} (e0 : r0 = 0) (e1 : r1 = 1) {n : Nat} (hn : A r0 12 0 = nI n) (hn12 : n ≤ 12) {j : Nat} (hj : j < n) {v : Int32} (hv : 0 ≤ v ∧ v ≤ 99) (hd : 4 ≤ d) : Ex d 91 [.ref 0, .int (nI j), .int 2, .int v] (N, H3 g (cc A T K B E l G) Qm) (some (.int (onum (A r0) j 2))) (N, H3 g (cc (ochg A r0 j 2 v) T K B E l G) Qm) := by
  have hj12 : j < 12 := by omega
  refine Ex.of ?_
  show Wp _ 91 0 [.ref 0, .int (nI j), .int 2, .int v, .null, .null] [] _ _
  refine W_aload_n d_91_0 rfl (by decide) ?_
  refine W_getf d_91_1 o_91 k_6_10 rfl rfl ?_
  show Wp _ _ _ _ (Value.ref (rb 0) :: _) _ _
  rw [show rb 0 = rb r0 from by rw [e0]]
  have hq0 : r0 < 3 := by omega
  refine W_iload_n d_91_4 rfl ?_
  refine W_callV d_91_5 o_91 (Or.inl k_6_103) (by omega) (x_56 (show r0 < 3 by omega)) rfl (mrecv_of (h_road (by assumption)) o_56.symm) rfl (Nat.le_of_ble_eq_true rfl) ?_
  refine W_if_ne (tgt := 14) d_91_8 (by decide) (fun h8 => ?_) (fun h8 => absurd h8 (fun q => bI_f q ⟨nI_pos' (by omega), by rw [hn]; exact nI_lt hj (by omega)⟩))
  refine W_iload_n d_91_14 rfl ?_
  refine W_if_lt (tgt := 38) d_91_15 (by decide) (fun h15 => absurd h15 (by decide)) (fun _ => ?_)
  refine W_iload_n d_91_18 rfl ?_
  refine W_gets d_91_19 o_91 k_6_117 rfl ?_
  refine W_alen (n := 5) (v := 5) d_91_22 rfl (by decide) ?_
  refine W_icmp_ge (tgt := 38) d_91_23 (by decide) (fun h23 => absurd h23 (by decide)) (fun _ => ?_)
  refine W_iload_n d_91_26 rfl ?_
  refine W_gets d_91_27 o_91 k_6_117 rfl ?_
  refine W_iload_n d_91_30 rfl ?_
  refine W_iald d_91_31 rfl (by decide) (vp_in_nI (n := 2) (by decide) (by decide)) (show _ = (99 : Int32) from by decide) ?_
  refine W_callS d_91_32 o_91 k_6_95 (by omega) x_126 rfl (Nat.le_of_ble_eq_true rfl) ?_
  refine W_if_ne (tgt := 41) d_91_35 (by decide) (fun h35 => ?_) (fun h35 => absurd h35 (fun q => bI_f q hv))
  refine W_aload_n d_91_41 rfl (by decide) ?_
  refine W_getf d_91_42 o_91 k_6_10 rfl rfl ?_
  show Wp _ _ _ _ (Value.ref (rb 0) :: _) _ _
  rw [show rb 0 = rb r0 from by rw [e0]]
  have hq0 : r0 < 3 := by omega
  refine W_getf d_91_45 o_91 k_6_121 (h_road (by assumption)) rfl ?_
  refine W_iload_n d_91_48 rfl ?_
  refine W_aald d_91_49 (h_owners (by assumption)) (vp_in_nI (by omega) (by decide)) (owa_v (by omega)) ?_
  refine W_astore d_91_50 (ow_ne (by assumption) (by assumption)) rfl ?_
  have hj12 : j < 12 := by omega
  refine W_aload d_91_52 rfl (ow_ne (by assumption) (by assumption)) ?_
  refine W_iload_n d_91_54 rfl ?_
  refine W_callV d_91_55 o_91 (Or.inl k_6_125) (by omega) (x_28 (show r0 < 3 by omega) (by omega)) rfl (mrecv_of (h_owner (by assumption) (by assumption)) o_28.symm) rfl (Nat.le_of_ble_eq_true rfl) ?_
  refine W_istore d_91_58 rfl ?_
  refine W_aload d_91_60 rfl (ow_ne (by assumption) (by assumption)) ?_
  refine W_iload_n d_91_62 rfl ?_
  refine W_iload_n d_91_63 rfl ?_
  refine W_callV d_91_64 o_91 (Or.inl k_6_131) (by omega) (x_29 (show r0 < 3 by omega) (by omega)) rfl (mrecv_of (h_owner (by assumption) (by assumption)) o_29.symm) rfl (Nat.le_of_ble_eq_true rfl) ?_
  refine W_iload d_91_67 rfl ?_
  refine W_iret d_91_69 rt_91 rfl ?_
  exact ⟨rfl, rfl⟩
theorem p_91_2n {d : Nat} {g : mG} {N : Nat} {A T K : Nat → tR} {B : tR} {E : Nat → Int32} {l : Int64} {G : tR} {Qm : Nat → mC} {r0 r1 : Nat} (e0 : r0 = 0) (e1 : r1 = 1) {n : Nat} (hn : A r0 12 0 = nI n) (hn12 : n ≤ 12) {j : Nat} (hj : j < n) {v : Int32} (hv : ¬ (0 ≤ v ∧ v ≤ 99)) (hd : 4 ≤ d) : Ex d 91 [.ref 0, .int (nI j), .int 2, .int v] (N, H3 g (cc A T K B E l G) Qm) (some (.int (-7))) (N, H3 g (cc A T K B E l G) Qm) := by
  refine Ex.of ?_
  show Wp _ 91 0 [.ref 0, .int (nI j), .int 2, .int v, .null, .null] [] _ _
  refine W_aload_n d_91_0 rfl (by decide) ?_
  refine W_getf d_91_1 o_91 k_6_10 rfl rfl ?_
  show Wp _ _ _ _ (Value.ref (rb 0) :: _) _ _
  rw [show rb 0 = rb r0 from by rw [e0]]
  have hq0 : r0 < 3 := by omega
  refine W_iload_n d_91_4 rfl ?_
  refine W_callV d_91_5 o_91 (Or.inl k_6_103) (by omega) (x_56 (show r0 < 3 by omega)) rfl (mrecv_of (h_road (by assumption)) o_56.symm) rfl (Nat.le_of_ble_eq_true rfl) ?_
  refine W_if_ne (tgt := 14) d_91_8 (by decide) (fun h8 => ?_) (fun h8 => absurd h8 (fun q => bI_f q ⟨nI_pos' (by omega), by rw [hn]; exact nI_lt hj (by omega)⟩))
  refine W_iload_n d_91_14 rfl ?_
  refine W_if_lt (tgt := 38) d_91_15 (by decide) (fun h15 => absurd h15 (by decide)) (fun _ => ?_)
  refine W_iload_n d_91_18 rfl ?_
  refine W_gets d_91_19 o_91 k_6_117 rfl ?_
  refine W_alen (n := 5) (v := 5) d_91_22 rfl (by decide) ?_
  refine W_icmp_ge (tgt := 38) d_91_23 (by decide) (fun h23 => absurd h23 (by decide)) (fun _ => ?_)
  refine W_iload_n d_91_26 rfl ?_
  refine W_gets d_91_27 o_91 k_6_117 rfl ?_
  refine W_iload_n d_91_30 rfl ?_
  refine W_iald d_91_31 rfl (by decide) (vp_in_nI (n := 2) (by decide) (by decide)) (show _ = (99 : Int32) from by decide) ?_
  refine W_callS d_91_32 o_91 k_6_95 (by omega) x_126 rfl (Nat.le_of_ble_eq_true rfl) ?_
  refine W_if_ne (tgt := 41) d_91_35 (by decide) (fun h35 => absurd (bI_ne.mpr hv) h35) (fun h35 => ?_)
  refine W_bipush d_91_38 (v := (-7)) (by decide) ?_
  refine W_iret d_91_40 rt_91 rfl ?_
  exact ⟨rfl, rfl⟩
theorem p_91_3 {d : Nat} {g : mG} {N : Nat} {A T K : Nat → tR} {B : tR} {E : Nat → Int32} {l : Int64} {G : tR} {Qm : Nat → mC} {r0 r1 : Nat} (e0 : r0 = 0) (e1 : r1 = 1) {n : Nat} (hn : A r0 12 0 = nI n) (hn12 : n ≤ 12) {j : Nat} (hj : j < n) {v : Int32} (hv : 0 ≤ v ∧ v ≤ 23) (hd : 4 ≤ d) : Ex d 91 [.ref 0, .int (nI j), .int 3, .int v] (N, H3 g (cc A T K B E l G) Qm) (some (.int (onum (A r0) j 3))) (N, H3 g (cc (ochg A r0 j 3 v) T K B E l G) Qm) := by
  have hj12 : j < 12 := by omega
  refine Ex.of ?_
  show Wp _ 91 0 [.ref 0, .int (nI j), .int 3, .int v, .null, .null] [] _ _
  refine W_aload_n d_91_0 rfl (by decide) ?_
  refine W_getf d_91_1 o_91 k_6_10 rfl rfl ?_
  show Wp _ _ _ _ (Value.ref (rb 0) :: _) _ _
  rw [show rb 0 = rb r0 from by rw [e0]]
  have hq0 : r0 < 3 := by omega
  refine W_iload_n d_91_4 rfl ?_
  refine W_callV d_91_5 o_91 (Or.inl k_6_103) (by omega) (x_56 (show r0 < 3 by omega)) rfl (mrecv_of (h_road (by assumption)) o_56.symm) rfl (Nat.le_of_ble_eq_true rfl) ?_
  refine W_if_ne (tgt := 14) d_91_8 (by decide) (fun h8 => ?_) (fun h8 => absurd h8 (fun q => bI_f q ⟨nI_pos' (by omega), by rw [hn]; exact nI_lt hj (by omega)⟩))
  refine W_iload_n d_91_14 rfl ?_
  refine W_if_lt (tgt := 38) d_91_15 (by decide) (fun h15 => absurd h15 (by decide)) (fun _ => ?_)
  refine W_iload_n d_91_18 rfl ?_
  refine W_gets d_91_19 o_91 k_6_117 rfl ?_
  refine W_alen (n := 5) (v := 5) d_91_22 rfl (by decide) ?_
  refine W_icmp_ge (tgt := 38) d_91_23 (by decide) (fun h23 => absurd h23 (by decide)) (fun _ => ?_)
  refine W_iload_n d_91_26 rfl ?_
  refine W_gets d_91_27 o_91 k_6_117 rfl ?_
  refine W_iload_n d_91_30 rfl ?_
  refine W_iald d_91_31 rfl (by decide) (vp_in_nI (n := 3) (by decide) (by decide)) (show _ = (23 : Int32) from by decide) ?_
  refine W_callS d_91_32 o_91 k_6_95 (by omega) x_126 rfl (Nat.le_of_ble_eq_true rfl) ?_
  refine W_if_ne (tgt := 41) d_91_35 (by decide) (fun h35 => ?_) (fun h35 => absurd h35 (fun q => bI_f q hv))
  refine W_aload_n d_91_41 rfl (by decide) ?_
  refine W_getf d_91_42 o_91 k_6_10 rfl rfl ?_
  show Wp _ _ _ _ (Value.ref (rb 0) :: _) _ _
  rw [show rb 0 = rb r0 from by rw [e0]]
  have hq0 : r0 < 3 := by omega
  refine W_getf d_91_45 o_91 k_6_121 (h_road (by assumption)) rfl ?_
  refine W_iload_n d_91_48 rfl ?_
  refine W_aald d_91_49 (h_owners (by assumption)) (vp_in_nI (by omega) (by decide)) (owa_v (by omega)) ?_
  refine W_astore d_91_50 (ow_ne (by assumption) (by assumption)) rfl ?_
  have hj12 : j < 12 := by omega
  refine W_aload d_91_52 rfl (ow_ne (by assumption) (by assumption)) ?_
  refine W_iload_n d_91_54 rfl ?_
  refine W_callV d_91_55 o_91 (Or.inl k_6_125) (by omega) (x_28 (show r0 < 3 by omega) (by omega)) rfl (mrecv_of (h_owner (by assumption) (by assumption)) o_28.symm) rfl (Nat.le_of_ble_eq_true rfl) ?_
  refine W_istore d_91_58 rfl ?_
  refine W_aload d_91_60 rfl (ow_ne (by assumption) (by assumption)) ?_
  refine W_iload_n d_91_62 rfl ?_
  refine W_iload_n d_91_63 rfl ?_
  refine W_callV d_91_64 o_91 (Or.inl k_6_131) (by omega) (x_29 (show r0 < 3 by omega) (by omega)) rfl (mrecv_of (h_owner (by assumption) (by assumption)) o_29.symm) rfl (Nat.le_of_ble_eq_true rfl) ?_
  refine W_iload d_91_67 rfl ?_
  refine W_iret d_91_69 rt_91 rfl ?_
  exact ⟨rfl, rfl⟩
theorem p_91_3n {d : Nat} {g : mG} {N : Nat} {A T K : Nat → tR} {B : tR} {E : Nat → Int32} {l : Int64} {G : tR} {Qm : Nat → mC} {r0 r1 : Nat} (e0 : r0 = 0) (e1 : r1 = 1) {n : Nat} (hn : A r0 12 0 = nI n) (hn12 : n ≤ 12) {j : Nat} (hj : j < n) {v : Int32} (hv : ¬ (0 ≤ v ∧ v ≤ 23)) (hd : 4 ≤ d) : Ex d 91 [.ref 0, .int (nI j), .int 3, .int v] (N, H3 g (cc A T K B E l G) Qm) (some (.int (-7))) (N, H3 g (cc A T K B E l G) Qm) := by
  refine Ex.of ?_
  show Wp _ 91 0 [.ref 0, .int (nI j), .int 3, .int v, .null, .null] [] _ _
  refine W_aload_n d_91_0 rfl (by decide) ?_
  refine W_getf d_91_1 o_91 k_6_10 rfl rfl ?_
  show Wp _ _ _ _ (Value.ref (rb 0) :: _) _ _
  rw [show rb 0 = rb r0 from by rw [e0]]
  have hq0 : r0 < 3 := by omega
  refine W_iload_n d_91_4 rfl ?_
  refine W_callV d_91_5 o_91 (Or.inl k_6_103) (by omega) (x_56 (show r0 < 3 by omega)) rfl (mrecv_of (h_road (by assumption)) o_56.symm) rfl (Nat.le_of_ble_eq_true rfl) ?_
  refine W_if_ne (tgt := 14) d_91_8 (by decide) (fun h8 => ?_) (fun h8 => absurd h8 (fun q => bI_f q ⟨nI_pos' (by omega), by rw [hn]; exact nI_lt hj (by omega)⟩))
  refine W_iload_n d_91_14 rfl ?_
  refine W_if_lt (tgt := 38) d_91_15 (by decide) (fun h15 => absurd h15 (by decide)) (fun _ => ?_)
  refine W_iload_n d_91_18 rfl ?_
  refine W_gets d_91_19 o_91 k_6_117 rfl ?_
  refine W_alen (n := 5) (v := 5) d_91_22 rfl (by decide) ?_
  refine W_icmp_ge (tgt := 38) d_91_23 (by decide) (fun h23 => absurd h23 (by decide)) (fun _ => ?_)
  refine W_iload_n d_91_26 rfl ?_
  refine W_gets d_91_27 o_91 k_6_117 rfl ?_
  refine W_iload_n d_91_30 rfl ?_
  refine W_iald d_91_31 rfl (by decide) (vp_in_nI (n := 3) (by decide) (by decide)) (show _ = (23 : Int32) from by decide) ?_
  refine W_callS d_91_32 o_91 k_6_95 (by omega) x_126 rfl (Nat.le_of_ble_eq_true rfl) ?_
  refine W_if_ne (tgt := 41) d_91_35 (by decide) (fun h35 => absurd (bI_ne.mpr hv) h35) (fun h35 => ?_)
  refine W_bipush d_91_38 (v := (-7)) (by decide) ?_
  refine W_iret d_91_40 rt_91 rfl ?_
  exact ⟨rfl, rfl⟩
theorem p_91_4 {d : Nat} {g : mG} {N : Nat} {A T K : Nat → tR} {B : tR} {E : Nat → Int32} {l : Int64} {G : tR} {Qm : Nat → mC} {r0 r1 : Nat} (e0 : r0 = 0) (e1 : r1 = 1) {n : Nat} (hn : A r0 12 0 = nI n) (hn12 : n ≤ 12) {j : Nat} (hj : j < n) {v : Int32} (hv : 0 ≤ v ∧ v ≤ 1) (hd : 4 ≤ d) : Ex d 91 [.ref 0, .int (nI j), .int 4, .int v] (N, H3 g (cc A T K B E l G) Qm) (some (.int (onum (A r0) j 4))) (N, H3 g (cc (ochg A r0 j 4 v) T K B E l G) Qm) := by
  have hj12 : j < 12 := by omega
  refine Ex.of ?_
  show Wp _ 91 0 [.ref 0, .int (nI j), .int 4, .int v, .null, .null] [] _ _
  refine W_aload_n d_91_0 rfl (by decide) ?_
  refine W_getf d_91_1 o_91 k_6_10 rfl rfl ?_
  show Wp _ _ _ _ (Value.ref (rb 0) :: _) _ _
  rw [show rb 0 = rb r0 from by rw [e0]]
  have hq0 : r0 < 3 := by omega
  refine W_iload_n d_91_4 rfl ?_
  refine W_callV d_91_5 o_91 (Or.inl k_6_103) (by omega) (x_56 (show r0 < 3 by omega)) rfl (mrecv_of (h_road (by assumption)) o_56.symm) rfl (Nat.le_of_ble_eq_true rfl) ?_
  refine W_if_ne (tgt := 14) d_91_8 (by decide) (fun h8 => ?_) (fun h8 => absurd h8 (fun q => bI_f q ⟨nI_pos' (by omega), by rw [hn]; exact nI_lt hj (by omega)⟩))
  refine W_iload_n d_91_14 rfl ?_
  refine W_if_lt (tgt := 38) d_91_15 (by decide) (fun h15 => absurd h15 (by decide)) (fun _ => ?_)
  refine W_iload_n d_91_18 rfl ?_
  refine W_gets d_91_19 o_91 k_6_117 rfl ?_
  refine W_alen (n := 5) (v := 5) d_91_22 rfl (by decide) ?_
  refine W_icmp_ge (tgt := 38) d_91_23 (by decide) (fun h23 => absurd h23 (by decide)) (fun _ => ?_)
  refine W_iload_n d_91_26 rfl ?_
  refine W_gets d_91_27 o_91 k_6_117 rfl ?_
  refine W_iload_n d_91_30 rfl ?_
  refine W_iald d_91_31 rfl (by decide) (vp_in_nI (n := 4) (by decide) (by decide)) (show _ = (1 : Int32) from by decide) ?_
  refine W_callS d_91_32 o_91 k_6_95 (by omega) x_126 rfl (Nat.le_of_ble_eq_true rfl) ?_
  refine W_if_ne (tgt := 41) d_91_35 (by decide) (fun h35 => ?_) (fun h35 => absurd h35 (fun q => bI_f q hv))
  refine W_aload_n d_91_41 rfl (by decide) ?_
  refine W_getf d_91_42 o_91 k_6_10 rfl rfl ?_
  show Wp _ _ _ _ (Value.ref (rb 0) :: _) _ _
  rw [show rb 0 = rb r0 from by rw [e0]]
  have hq0 : r0 < 3 := by omega
  refine W_getf d_91_45 o_91 k_6_121 (h_road (by assumption)) rfl ?_
  refine W_iload_n d_91_48 rfl ?_
  refine W_aald d_91_49 (h_owners (by assumption)) (vp_in_nI (by omega) (by decide)) (owa_v (by omega)) ?_
  refine W_astore d_91_50 (ow_ne (by assumption) (by assumption)) rfl ?_
  have hj12 : j < 12 := by omega
  refine W_aload d_91_52 rfl (ow_ne (by assumption) (by assumption)) ?_
  refine W_iload_n d_91_54 rfl ?_
  refine W_callV d_91_55 o_91 (Or.inl k_6_125) (by omega) (x_28 (show r0 < 3 by omega) (by omega)) rfl (mrecv_of (h_owner (by assumption) (by assumption)) o_28.symm) rfl (Nat.le_of_ble_eq_true rfl) ?_
  refine W_istore d_91_58 rfl ?_
  refine W_aload d_91_60 rfl (ow_ne (by assumption) (by assumption)) ?_
  refine W_iload_n d_91_62 rfl ?_
  refine W_iload_n d_91_63 rfl ?_
  refine W_callV d_91_64 o_91 (Or.inl k_6_131) (by omega) (x_29 (show r0 < 3 by omega) (by omega)) rfl (mrecv_of (h_owner (by assumption) (by assumption)) o_29.symm) rfl (Nat.le_of_ble_eq_true rfl) ?_
  refine W_iload d_91_67 rfl ?_
  refine W_iret d_91_69 rt_91 rfl ?_
  exact ⟨rfl, rfl⟩
theorem p_91_4n {d : Nat} {g : mG} {N : Nat} {A T K : Nat → tR} {B : tR} {E : Nat → Int32} {l : Int64} {G : tR} {Qm : Nat → mC} {r0 r1 : Nat} (e0 : r0 = 0) (e1 : r1 = 1) {n : Nat} (hn : A r0 12 0 = nI n) (hn12 : n ≤ 12) {j : Nat} (hj : j < n) {v : Int32} (hv : ¬ (0 ≤ v ∧ v ≤ 1)) (hd : 4 ≤ d) : Ex d 91 [.ref 0, .int (nI j), .int 4, .int v] (N, H3 g (cc A T K B E l G) Qm) (some (.int (-7))) (N, H3 g (cc A T K B E l G) Qm) := by
  refine Ex.of ?_
  show Wp _ 91 0 [.ref 0, .int (nI j), .int 4, .int v, .null, .null] [] _ _
  refine W_aload_n d_91_0 rfl (by decide) ?_
  refine W_getf d_91_1 o_91 k_6_10 rfl rfl ?_
  show Wp _ _ _ _ (Value.ref (rb 0) :: _) _ _
  rw [show rb 0 = rb r0 from by rw [e0]]
  have hq0 : r0 < 3 := by omega
  refine W_iload_n d_91_4 rfl ?_
  refine W_callV d_91_5 o_91 (Or.inl k_6_103) (by omega) (x_56 (show r0 < 3 by omega)) rfl (mrecv_of (h_road (by assumption)) o_56.symm) rfl (Nat.le_of_ble_eq_true rfl) ?_
  refine W_if_ne (tgt := 14) d_91_8 (by decide) (fun h8 => ?_) (fun h8 => absurd h8 (fun q => bI_f q ⟨nI_pos' (by omega), by rw [hn]; exact nI_lt hj (by omega)⟩))
  refine W_iload_n d_91_14 rfl ?_
  refine W_if_lt (tgt := 38) d_91_15 (by decide) (fun h15 => absurd h15 (by decide)) (fun _ => ?_)
  refine W_iload_n d_91_18 rfl ?_
  refine W_gets d_91_19 o_91 k_6_117 rfl ?_
  refine W_alen (n := 5) (v := 5) d_91_22 rfl (by decide) ?_
  refine W_icmp_ge (tgt := 38) d_91_23 (by decide) (fun h23 => absurd h23 (by decide)) (fun _ => ?_)
  refine W_iload_n d_91_26 rfl ?_
  refine W_gets d_91_27 o_91 k_6_117 rfl ?_
  refine W_iload_n d_91_30 rfl ?_
  refine W_iald d_91_31 rfl (by decide) (vp_in_nI (n := 4) (by decide) (by decide)) (show _ = (1 : Int32) from by decide) ?_
  refine W_callS d_91_32 o_91 k_6_95 (by omega) x_126 rfl (Nat.le_of_ble_eq_true rfl) ?_
  refine W_if_ne (tgt := 41) d_91_35 (by decide) (fun h35 => absurd (bI_ne.mpr hv) h35) (fun h35 => ?_)
  refine W_bipush d_91_38 (v := (-7)) (by decide) ?_
  refine W_iret d_91_40 rt_91 rfl ?_
  exact ⟨rfl, rfl⟩
theorem p_91b {d : Nat} {g : mG} {N : Nat} {A T K : Nat → tR} {B : tR} {E : Nat → Int32} {l : Int64} {G : tR} {Qm : Nat → mC} {r0 r1 : Nat} (e0 : r0 = 0) (e1 : r1 = 1) {n : Nat} (hn : A r0 12 0 = nI n) (hn12 : n ≤ 12) {j : Nat} (hj : j < n) {w v : Int32} (hb : ¬ (0 ≤ w ∧ w ≤ 4)) (hd : 4 ≤ d) : Ex d 91 [.ref 0, .int (nI j), .int w, .int v] (N, H3 g (cc A T K B E l G) Qm) (some (.int (-7))) (N, H3 g (cc A T K B E l G) Qm) := by
  refine Ex.of ?_
  show Wp _ 91 0 [.ref 0, .int (nI j), .int w, .int v, .null, .null] [] _ _
  refine W_aload_n d_91_0 rfl (by decide) ?_
  refine W_getf d_91_1 o_91 k_6_10 rfl rfl ?_
  show Wp _ _ _ _ (Value.ref (rb 0) :: _) _ _
  rw [show rb 0 = rb r0 from by rw [e0]]
  have hq0 : r0 < 3 := by omega
  refine W_iload_n d_91_4 rfl ?_
  refine W_callV d_91_5 o_91 (Or.inl k_6_103) (by omega) (x_56 (show r0 < 3 by omega)) rfl (mrecv_of (h_road (by assumption)) o_56.symm) rfl (Nat.le_of_ble_eq_true rfl) ?_
  refine W_if_ne (tgt := 14) d_91_8 (by decide) (fun h8 => ?_) (fun h8 => absurd h8 (fun q => bI_f q ⟨nI_pos' (by omega), by rw [hn]; exact nI_lt hj (by omega)⟩))
  refine W_iload_n d_91_14 rfl ?_
  refine W_if_lt (tgt := 38) d_91_15 (by decide) (fun h15 => ?_) (fun h15 => ?_)
  · refine W_bipush d_91_38 (v := (-7)) (by decide) ?_
    refine W_iret d_91_40 rt_91 rfl ?_
    exact ⟨rfl, rfl⟩
  · refine W_iload_n d_91_18 rfl ?_
    refine W_gets d_91_19 o_91 k_6_117 rfl ?_
    refine W_alen (n := 5) (v := 5) d_91_22 rfl (by decide) ?_
    refine W_icmp_ge (tgt := 38) d_91_23 (by decide) (fun h23 => ?_) (fun h23 => ?_)
    · refine W_bipush d_91_38 (v := (-7)) (by decide) ?_
      refine W_iret d_91_40 rt_91 rfl ?_
      exact ⟨rfl, rfl⟩
    · exact (hb ⟨Int32.not_lt.mp h15, Int32.not_lt.mp (fun q => h23 (by simp only [Int32.le_iff_toInt_le, Int32.lt_iff_toInt_lt, show (4 : Int32).toInt = 4 from rfl, show (5 : Int32).toInt = 5 from rfl] at *; omega))⟩).elim
theorem p_92a {d : Nat} {g : mG} {N : Nat} {A T K : Nat → tR} {B : tR} {E : Nat → Int32} {l : Int64} {G : tR} {Qm : Nat → mC} {r0 r1 : Nat} (e0 : r0 = 0) (e1 : r1 = 1) {v w : Int32} (hb : ¬ (0 ≤ v ∧ v < A r0 12 0)) (hd : 4 ≤ d) : Ex d 92 [.ref 0, .int v, .int w] (N, H3 g (cc A T K B E l G) Qm) (some (.int (-5))) (N, H3 g (cc A T K B E l G) Qm) := by
  refine Ex.of ?_
  show Wp _ 92 0 [.ref 0, .int v, .int w] [] _ _
  refine W_aload_n d_92_0 rfl (by decide) ?_
  refine W_getf d_92_1 o_92 k_6_10 rfl rfl ?_
  show Wp _ _ _ _ (Value.ref (rb 0) :: _) _ _
  rw [show rb 0 = rb r0 from by rw [e0]]
  have hq0 : r0 < 3 := by omega
  refine W_iload_n d_92_4 rfl ?_
  refine W_callV d_92_5 o_92 (Or.inl k_6_103) (by omega) (x_56 (show r0 < 3 by omega)) rfl (mrecv_of (h_road (by assumption)) o_56.symm) rfl (Nat.le_of_ble_eq_true rfl) ?_
  refine W_if_ne (tgt := 14) d_92_8 (by decide) (fun h8 => absurd (bI_ne.mpr hb) h8) (fun h8 => ?_)
  refine W_bipush d_92_11 (v := (-5)) (by decide) ?_
  refine W_iret d_92_13 rt_92 rfl ?_
  exact ⟨rfl, rfl⟩
theorem p_92b {d : Nat} {g : mG} {N : Nat} {A T K : Nat → tR} {B : tR} {E : Nat → Int32} {l : Int64} {G : tR} {Qm : Nat → mC} {r0 r1 : Nat} (e0 : r0 = 0) (e1 : r1 = 1) {v w : Int32} (ha : 0 ≤ v ∧ v < A r0 12 0) (hb : ¬ (0 ≤ w ∧ w ≤ 7)) (hd : 4 ≤ d) : Ex d 92 [.ref 0, .int v, .int w] (N, H3 g (cc A T K B E l G) Qm) (some (.int (-7))) (N, H3 g (cc A T K B E l G) Qm) := by
  refine Ex.of ?_
  show Wp _ 92 0 [.ref 0, .int v, .int w] [] _ _
  refine W_aload_n d_92_0 rfl (by decide) ?_
  refine W_getf d_92_1 o_92 k_6_10 rfl rfl ?_
  show Wp _ _ _ _ (Value.ref (rb 0) :: _) _ _
  rw [show rb 0 = rb r0 from by rw [e0]]
  have hq0 : r0 < 3 := by omega
  refine W_iload_n d_92_4 rfl ?_
  refine W_callV d_92_5 o_92 (Or.inl k_6_103) (by omega) (x_56 (show r0 < 3 by omega)) rfl (mrecv_of (h_road (by assumption)) o_56.symm) rfl (Nat.le_of_ble_eq_true rfl) ?_
  refine W_if_ne (tgt := 14) d_92_8 (by decide) (fun h8 => ?_) (fun h8 => absurd h8 (fun q => bI_f q ha))
  refine W_iload_n d_92_14 rfl ?_
  refine W_bipush d_92_15 (v := 7) (by decide) ?_
  refine W_callS d_92_17 o_92 k_6_95 (by omega) x_126 rfl (Nat.le_of_ble_eq_true rfl) ?_
  refine W_if_ne (tgt := 26) d_92_20 (by decide) (fun h20 => absurd (bI_ne.mpr hb) h20) (fun h20 => ?_)
  refine W_bipush d_92_23 (v := (-7)) (by decide) ?_
  refine W_iret d_92_25 rt_92 rfl ?_
  exact ⟨rfl, rfl⟩
theorem p_92s {d : Nat} {g : mG} {N : Nat} {A T K : Nat → tR} {B : tR} {E : Nat → Int32} {l : Int64} {G : tR} {Qm : Nat → mC} {r0 r1 : Nat} (e0 : r0 = 0) (e1 : r1 = 1) {n : Nat} (hn : A r0 12 0 = nI n) (hn12 : n ≤ 12) {j : Nat} (hj : j < n) (hd : 4 ≤ d) : Ex d 92 [.ref 0, .int (nI j), .int 7] (N, H3 g (cc A T K B E l G) Qm) (some (.int (A r0 9 (j / 2)))) (N, H3 g (cc A T K B E l G) Qm) := by
  refine Ex.of ?_
  show Wp _ 92 0 [.ref 0, .int (nI j), .int 7] [] _ _
  refine W_aload_n d_92_0 rfl (by decide) ?_
  refine W_getf d_92_1 o_92 k_6_10 rfl rfl ?_
  show Wp _ _ _ _ (Value.ref (rb 0) :: _) _ _
  rw [show rb 0 = rb r0 from by rw [e0]]
  have hq0 : r0 < 3 := by omega
  refine W_iload_n d_92_4 rfl ?_
  refine W_callV d_92_5 o_92 (Or.inl k_6_103) (by omega) (x_56 (show r0 < 3 by omega)) rfl (mrecv_of (h_road (by assumption)) o_56.symm) rfl (Nat.le_of_ble_eq_true rfl) ?_
  refine W_if_ne (tgt := 14) d_92_8 (by decide) (fun h8 => ?_) (fun h8 => absurd h8 (fun q => bI_f q ⟨nI_pos' (by omega), by rw [hn]; exact nI_lt hj (by omega)⟩))
  refine W_iload_n d_92_14 rfl ?_
  refine W_bipush d_92_15 (v := 7) (by decide) ?_
  refine W_callS d_92_17 o_92 k_6_95 (by omega) x_126 rfl (Nat.le_of_ble_eq_true rfl) ?_
  refine W_if_ne (tgt := 26) d_92_20 (by decide) (fun h20 => ?_) (fun h20 => absurd h20 (fun q => bI_f q (by decide)))
  refine W_iload_n d_92_26 rfl ?_
  refine W_bipush d_92_27 (v := 7) (by decide) ?_
  refine W_icmp_ne (tgt := 46) d_92_29 (by decide) (fun h29 => absurd h29 (by decide)) (fun _ => ?_)
  refine W_aload_n d_92_32 rfl (by decide) ?_
  refine W_getf d_92_33 o_92 k_6_10 rfl rfl ?_
  show Wp _ _ _ _ (Value.ref (rb 0) :: _) _ _
  rw [show rb 0 = rb r0 from by rw [e0]]
  have hq0 : r0 < 3 := by omega
  refine W_getf d_92_36 o_92 k_6_135 (h_road (by assumption)) rfl ?_
  refine W_iload_n d_92_39 rfl ?_
  refine W_iconst d_92_40 (v := 2) (by decide) ?_
  refine W_idiv d_92_41 (by decide) ?_
  rw [show ((nI j / 2 : Int32)) = nI (j / 2) from pk_div (a := j) (d := 2) (by omega) (by decide) (by decide)]
  refine W_iald d_92_42 (h_lies (by assumption)) (by decide) (vp_in_nI (by omega) (by decide)) (congrArg _ (nI_clamp (by omega))) ?_
  refine W_goto (tgt := 59) d_92_43 (by decide) ?_
  refine W_iret d_92_59 rt_92 rfl ?_
  exact ⟨rfl, rfl⟩
theorem p_92 {d : Nat} {g : mG} {N : Nat} {A T K : Nat → tR} {B : tR} {E : Nat → Int32} {l : Int64} {G : tR} {Qm : Nat → mC} {r0 r1 : Nat} (e0 : r0 = 0) (e1 : r1 = 1) {n : Nat} (hn : A r0 12 0 = nI n) (hn12 : n ≤ 12) {j : Nat} (hj : j < n) {w : Int32} (hw : 0 ≤ w ∧ w ≤ 7) (h7 : ¬ w = 7) (hd : 4 ≤ d) : Ex d 92 [.ref 0, .int (nI j), .int w] (N, H3 g (cc A T K B E l G) Qm) (some (.int (onum (A r0) j w))) (N, H3 g (cc A T K B E l G) Qm) := by
  have hj12 : j < 12 := by omega
  refine Ex.of ?_
  show Wp _ 92 0 [.ref 0, .int (nI j), .int w] [] _ _
  refine W_aload_n d_92_0 rfl (by decide) ?_
  refine W_getf d_92_1 o_92 k_6_10 rfl rfl ?_
  show Wp _ _ _ _ (Value.ref (rb 0) :: _) _ _
  rw [show rb 0 = rb r0 from by rw [e0]]
  have hq0 : r0 < 3 := by omega
  refine W_iload_n d_92_4 rfl ?_
  refine W_callV d_92_5 o_92 (Or.inl k_6_103) (by omega) (x_56 (show r0 < 3 by omega)) rfl (mrecv_of (h_road (by assumption)) o_56.symm) rfl (Nat.le_of_ble_eq_true rfl) ?_
  refine W_if_ne (tgt := 14) d_92_8 (by decide) (fun h8 => ?_) (fun h8 => absurd h8 (fun q => bI_f q ⟨nI_pos' (by omega), by rw [hn]; exact nI_lt hj (by omega)⟩))
  refine W_iload_n d_92_14 rfl ?_
  refine W_bipush d_92_15 (v := 7) (by decide) ?_
  refine W_callS d_92_17 o_92 k_6_95 (by omega) x_126 rfl (Nat.le_of_ble_eq_true rfl) ?_
  refine W_if_ne (tgt := 26) d_92_20 (by decide) (fun h20 => ?_) (fun h20 => absurd h20 (fun q => bI_f q hw))
  refine W_iload_n d_92_26 rfl ?_
  refine W_bipush d_92_27 (v := 7) (by decide) ?_
  refine W_icmp_ne (tgt := 46) d_92_29 (by decide) (fun h29 => ?_) (fun h29 => absurd h29 h7)
  refine W_aload_n d_92_46 rfl (by decide) ?_
  refine W_getf d_92_47 o_92 k_6_10 rfl rfl ?_
  show Wp _ _ _ _ (Value.ref (rb 0) :: _) _ _
  rw [show rb 0 = rb r0 from by rw [e0]]
  have hq0 : r0 < 3 := by omega
  refine W_getf d_92_50 o_92 k_6_121 (h_road (by assumption)) rfl ?_
  refine W_iload_n d_92_53 rfl ?_
  refine W_aald d_92_54 (h_owners (by assumption)) (vp_in_nI (by omega) (by decide)) (owa_v (by omega)) ?_
  refine W_iload_n d_92_55 rfl ?_
  refine W_callV d_92_56 o_92 (Or.inl k_6_125) (by omega) (x_28 (show r0 < 3 by omega) (by omega)) rfl (mrecv_of (h_owner (by assumption) (by assumption)) o_28.symm) rfl (Nat.le_of_ble_eq_true rfl) ?_
  refine W_iret d_92_59 rt_92 rfl ?_
  exact ⟨rfl, rfl⟩
theorem p_94a {d : Nat} {g : mG} {N : Nat} {A T K : Nat → tR} {B : tR} {E : Nat → Int32} {l : Int64} {G : tR} {Qm : Nat → mC} {r0 r1 : Nat} (e0 : r0 = 0) (e1 : r1 = 1) {v a t : Int32} (hb : ¬ (0 ≤ v ∧ v < A r0 12 1)) (hd : 4 ≤ d) : Ex d 94 [.ref 0, .int v, .int a, .int t] (N, H3 g (cc A T K B E l G) Qm) (some (.int (-6))) (N, H3 g (cc A T K B E l G) Qm) := by
  refine Ex.of ?_
  show Wp _ 94 0 [.ref 0, .int v, .int a, .int t, .null] [] _ _
  refine W_aload_n d_94_0 rfl (by decide) ?_
  refine W_getf d_94_1 o_94 k_6_10 rfl rfl ?_
  show Wp _ _ _ _ (Value.ref (rb 0) :: _) _ _
  rw [show rb 0 = rb r0 from by rw [e0]]
  have hq0 : r0 < 3 := by omega
  refine W_iload_n d_94_4 rfl ?_
  refine W_callV d_94_5 o_94 (Or.inl k_6_145) (by omega) (x_57 (show r0 < 3 by omega)) rfl (mrecv_of (h_road (by assumption)) o_57.symm) rfl (Nat.le_of_ble_eq_true rfl) ?_
  refine W_if_ne (tgt := 14) d_94_8 (by decide) (fun h8 => absurd (bI_ne.mpr hb) h8) (fun h8 => ?_)
  refine W_bipush d_94_11 (v := (-6)) (by decide) ?_
  refine W_iret d_94_13 rt_94 rfl ?_
  exact ⟨rfl, rfl⟩
theorem p_94b {d : Nat} {g : mG} {N : Nat} {A T K : Nat → tR} {B : tR} {E : Nat → Int32} {l : Int64} {G : tR} {Qm : Nat → mC} {r0 r1 : Nat} (e0 : r0 = 0) (e1 : r1 = 1) {p : Nat} (hp : A r0 12 1 = nI p) (hp6 : p ≤ 6) {k : Nat} (hk : k < p) {a t : Int32} (hb : ¬ ((0 ≤ a ∧ a ≤ 23) ∧ (0 ≤ t ∧ t ≤ 1))) (hd : 4 ≤ d) : Ex d 94 [.ref 0, .int (nI k), .int a, .int t] (N, H3 g (cc A T K B E l G) Qm) (some (.int (-7))) (N, H3 g (cc A T K B E l G) Qm) := by
  refine Ex.of ?_
  show Wp _ 94 0 [.ref 0, .int (nI k), .int a, .int t, .null] [] _ _
  refine W_aload_n d_94_0 rfl (by decide) ?_
  refine W_getf d_94_1 o_94 k_6_10 rfl rfl ?_
  show Wp _ _ _ _ (Value.ref (rb 0) :: _) _ _
  rw [show rb 0 = rb r0 from by rw [e0]]
  have hq0 : r0 < 3 := by omega
  refine W_iload_n d_94_4 rfl ?_
  refine W_callV d_94_5 o_94 (Or.inl k_6_145) (by omega) (x_57 (show r0 < 3 by omega)) rfl (mrecv_of (h_road (by assumption)) o_57.symm) rfl (Nat.le_of_ble_eq_true rfl) ?_
  refine W_if_ne (tgt := 14) d_94_8 (by decide) (fun h8 => ?_) (fun h8 => absurd h8 (fun q => bI_f q ⟨nI_pos' (by omega), by rw [hp]; exact nI_lt hk (by omega)⟩))
  refine W_iload_n d_94_14 rfl ?_
  refine W_callS d_94_15 o_94 k_6_110 (by omega) (x_128 (by omega)) rfl (Nat.le_of_ble_eq_true rfl) ?_
  refine W_if_eq (tgt := 28) d_94_18 (by decide) (fun h18 => ?_) (fun h18 => ?_)
  · refine W_bipush d_94_28 (v := (-7)) (by decide) ?_
    refine W_iret d_94_30 rt_94 rfl ?_
    exact ⟨rfl, rfl⟩
  · refine W_iload_n d_94_21 rfl ?_
    refine W_callS d_94_22 o_94 k_6_138 (by omega) (x_129 (by omega)) rfl (Nat.le_of_ble_eq_true rfl) ?_
    refine W_if_ne (tgt := 31) d_94_25 (by decide) (fun h25 => ?_) (fun h25 => ?_)
    · exact (hb ⟨bI_t h18, bI_t h25⟩).elim
    · refine W_bipush d_94_28 (v := (-7)) (by decide) ?_
      refine W_iret d_94_30 rt_94 rfl ?_
      exact ⟨rfl, rfl⟩
theorem p_94 {d : Nat} {g : mG} {N : Nat} {A T K : Nat → tR} {B : tR} {E : Nat → Int32} {l : Int64} {G : tR} {Qm : Nat → mC} {r0 r1 : Nat} (e0 : r0 = 0) (e1 : r1 = 1) {p : Nat} (hp : A r0 12 1 = nI p) (hp6 : p ≤ 6) {k : Nat} (hk : k < p) {a t : Int32} (hb : (0 ≤ a ∧ a ≤ 23) ∧ (0 ≤ t ∧ t ≤ 1)) (hd : 4 ≤ d) : Ex d 94 [.ref 0, .int (nI k), .int a, .int t] (N, H3 g (cc A T K B E l G) Qm) (some (.int (10 * A r0 10 k + A r0 11 k))) (N, H3 g (cc (u3 (u3 A r0 10 k a) r0 11 k t) T K B E l G) Qm) := by
  have hk6 : k < 6 := by omega
  refine Ex.of ?_
  show Wp _ 94 0 [.ref 0, .int (nI k), .int a, .int t, .null] [] _ _
  refine W_aload_n d_94_0 rfl (by decide) ?_
  refine W_getf d_94_1 o_94 k_6_10 rfl rfl ?_
  show Wp _ _ _ _ (Value.ref (rb 0) :: _) _ _
  rw [show rb 0 = rb r0 from by rw [e0]]
  have hq0 : r0 < 3 := by omega
  refine W_iload_n d_94_4 rfl ?_
  refine W_callV d_94_5 o_94 (Or.inl k_6_145) (by omega) (x_57 (show r0 < 3 by omega)) rfl (mrecv_of (h_road (by assumption)) o_57.symm) rfl (Nat.le_of_ble_eq_true rfl) ?_
  refine W_if_ne (tgt := 14) d_94_8 (by decide) (fun h8 => ?_) (fun h8 => absurd h8 (fun q => bI_f q ⟨nI_pos' (by omega), by rw [hp]; exact nI_lt hk (by omega)⟩))
  refine W_iload_n d_94_14 rfl ?_
  refine W_callS d_94_15 o_94 k_6_110 (by omega) (x_128 (by omega)) rfl (Nat.le_of_ble_eq_true rfl) ?_
  refine W_if_eq (tgt := 28) d_94_18 (by decide) (fun h18 => absurd h18 (fun q => bI_f q hb.1)) (fun h18 => ?_)
  refine W_iload_n d_94_21 rfl ?_
  refine W_callS d_94_22 o_94 k_6_138 (by omega) (x_129 (by omega)) rfl (Nat.le_of_ble_eq_true rfl) ?_
  refine W_if_ne (tgt := 31) d_94_25 (by decide) (fun h25 => ?_) (fun h25 => absurd h25 (fun q => bI_f q hb.2))
  refine W_aload_n d_94_31 rfl (by decide) ?_
  refine W_iload_n d_94_32 rfl ?_
  refine W_callV d_94_33 o_94 (Or.inl k_6_148) (by omega) (x_95 e0 e1 hp hp6 (by omega)) rfl (mrecv_of rfl o_95.symm) rfl (Nat.le_of_ble_eq_true rfl) ?_
  refine W_istore d_94_36 rfl ?_
  refine W_aload_n d_94_38 rfl (by decide) ?_
  refine W_getf d_94_39 o_94 k_6_10 rfl rfl ?_
  show Wp _ _ _ _ (Value.ref (rb 0) :: _) _ _
  rw [show rb 0 = rb r0 from by rw [e0]]
  have hq0 : r0 < 3 := by omega
  refine W_getf d_94_42 o_94 k_6_151 (h_road (by assumption)) rfl ?_
  refine W_iload_n d_94_45 rfl ?_
  refine W_iload_n d_94_46 rfl ?_
  refine W_iast d_94_47 (h_pho (by assumption)) (vp_in_nI (by omega) (by decide)) (ms_phoU (by assumption) (nI_clamp (by omega))) ?_
  refine W_aload_n d_94_48 rfl (by decide) ?_
  refine W_getf d_94_49 o_94 k_6_10 rfl rfl ?_
  show Wp _ _ _ _ (Value.ref (rb 0) :: _) _ _
  rw [show rb 0 = rb r0 from by rw [e0]]
  have hq0 : r0 < 3 := by omega
  refine W_getf d_94_52 o_94 k_6_154 (h_road (by assumption)) rfl ?_
  refine W_iload_n d_94_55 rfl ?_
  refine W_iload_n d_94_56 rfl ?_
  refine W_iast d_94_57 (h_psi (by assumption)) (vp_in_nI (by omega) (by decide)) (ms_psiU (by assumption) (nI_clamp (by omega))) ?_
  refine W_iload d_94_58 rfl ?_
  refine W_iret d_94_60 rt_94 rfl ?_
  exact ⟨congrArg (fun z => some (Value.int z)) ((if_pos ⟨nI_pos' (by omega), by rw [hp]; exact nI_lt hk (by omega)⟩).trans (by rw [nI_clamp (by omega)])), rfl⟩
theorem p_85a {d : Nat} {g : mG} {N : Nat} {A T K : Nat → tR} {B : tR} {E : Nat → Int32} {l : Int64} {G : tR} {Qm : Nat → mC} {r0 r1 : Nat} (e0 : r0 = 0) (e1 : r1 = 1) {v w : Int32} (hb : ¬ (0 ≤ v ∧ v ≤ 1)) (hd : 4 ≤ d) : Ex d 85 [.ref 0, .int v, .int w] (N, H3 g (cc A T K B E l G) Qm) (some (.int (-5))) (N, H3 g (cc A T K B E l G) Qm) := by
  refine Ex.of ?_
  show Wp _ 85 0 [.ref 0, .int v, .int w, .null] [] _ _
  refine W_iload_n d_85_0 rfl ?_
  refine W_if_lt (tgt := 9) d_85_1 (by decide) (fun h1 => ?_) (fun h1 => ?_)
  · refine W_bipush d_85_9 (v := (-5)) (by decide) ?_
    refine W_iret d_85_11 rt_85 rfl ?_
    exact ⟨rfl, rfl⟩
  · refine W_iload_n d_85_4 rfl ?_
    refine W_iconst d_85_5 (v := 1) (by decide) ?_
    refine W_icmp_le (tgt := 12) d_85_6 (by decide) (fun h6 => ?_) (fun h6 => ?_)
    · exact (hb ⟨Int32.not_lt.mp h1, h6⟩).elim
    · refine W_bipush d_85_9 (v := (-5)) (by decide) ?_
      refine W_iret d_85_11 rt_85 rfl ?_
      exact ⟨rfl, rfl⟩
theorem p_85_0 {d : Nat} {g : mG} {N : Nat} {A T K : Nat → tR} {B : tR} {E : Nat → Int32} {l : Int64} {G : tR} {Qm : Nat → mC} {r0 r1 : Nat} (e0 : r0 = 0) (e1 : r1 = 1) {w : Int32} (hv : 0 ≤ w ∧ w ≤ 99) (hd : 4 ≤ d) : Ex d 85 [.ref 0, .int 0, .int w] (N, H3 g (cc A T K B E l G) Qm) (some (.int (A r0 12 2))) (N, H3 g (cc (u3 A r0 12 2 w) T K B E l G) Qm) := by
  refine Ex.of ?_
  show Wp _ 85 0 [.ref 0, .int 0, .int w, .null] [] _ _
  refine W_iload_n d_85_0 rfl ?_
  refine W_if_lt (tgt := 9) d_85_1 (by decide) (fun h1 => absurd h1 (by decide)) (fun _ => ?_)
  refine W_iload_n d_85_4 rfl ?_
  refine W_iconst d_85_5 (v := 1) (by decide) ?_
  refine W_icmp_le (tgt := 12) d_85_6 (by decide) (fun _ => ?_) (fun h6 => absurd h6 (by decide))
  refine W_iload_n d_85_12 rfl ?_
  refine W_iload_n d_85_13 rfl ?_
  refine W_if_ne (tgt := 22) d_85_14 (by decide) (fun h14 => absurd h14 (by decide)) (fun _ => ?_)
  refine W_bipush d_85_17 (v := 99) (by decide) ?_
  refine W_goto (tgt := 25) d_85_19 (by decide) ?_
  refine W_callS d_85_25 o_85 k_6_95 (by omega) x_126 rfl (Nat.le_of_ble_eq_true rfl) ?_
  refine W_if_ne (tgt := 34) d_85_28 (by decide) (fun h28 => ?_) (fun h28 => absurd h28 (fun q => bI_f q hv))
  refine W_iload_n d_85_34 rfl ?_
  refine W_if_ne (tgt := 48) d_85_35 (by decide) (fun h35 => absurd h35 (by decide)) (fun _ => ?_)
  refine W_aload_n d_85_38 rfl (by decide) ?_
  refine W_getf d_85_39 o_85 k_6_10 rfl rfl ?_
  show Wp _ _ _ _ (Value.ref (rb 0) :: _) _ _
  rw [show rb 0 = rb r0 from by rw [e0]]
  have hq0 : r0 < 3 := by omega
  refine W_getf d_85_42 o_85 k_6_83 (h_road (by assumption)) rfl ?_
  refine W_goto (tgt := 55) d_85_45 (by decide) ?_
  refine W_istore_n d_85_55 rfl ?_
  refine W_iload_n d_85_56 rfl ?_
  refine W_if_ne (tgt := 71) d_85_57 (by decide) (fun h57 => absurd h57 (by decide)) (fun _ => ?_)
  refine W_aload_n d_85_60 rfl (by decide) ?_
  refine W_getf d_85_61 o_85 k_6_10 rfl rfl ?_
  show Wp _ _ _ _ (Value.ref (rb 0) :: _) _ _
  rw [show rb 0 = rb r0 from by rw [e0]]
  have hq0 : r0 < 3 := by omega
  refine W_iload_n d_85_64 rfl ?_
  refine W_putf d_85_65 o_85 k_6_83 (h_road (by assumption)) (Nat.le_of_ble_eq_true rfl) rfl (ms_rd6 (by assumption)) ?_
  refine W_goto (tgt := 79) d_85_68 (by decide) ?_
  refine W_iload_n d_85_79 rfl ?_
  refine W_iret d_85_80 rt_85 rfl ?_
  exact ⟨rfl, rfl⟩
theorem p_85_0n {d : Nat} {g : mG} {N : Nat} {A T K : Nat → tR} {B : tR} {E : Nat → Int32} {l : Int64} {G : tR} {Qm : Nat → mC} {r0 r1 : Nat} (e0 : r0 = 0) (e1 : r1 = 1) {w : Int32} (hv : ¬ (0 ≤ w ∧ w ≤ 99)) (hd : 4 ≤ d) : Ex d 85 [.ref 0, .int 0, .int w] (N, H3 g (cc A T K B E l G) Qm) (some (.int (-7))) (N, H3 g (cc A T K B E l G) Qm) := by
  refine Ex.of ?_
  show Wp _ 85 0 [.ref 0, .int 0, .int w, .null] [] _ _
  refine W_iload_n d_85_0 rfl ?_
  refine W_if_lt (tgt := 9) d_85_1 (by decide) (fun h1 => absurd h1 (by decide)) (fun _ => ?_)
  refine W_iload_n d_85_4 rfl ?_
  refine W_iconst d_85_5 (v := 1) (by decide) ?_
  refine W_icmp_le (tgt := 12) d_85_6 (by decide) (fun _ => ?_) (fun h6 => absurd h6 (by decide))
  refine W_iload_n d_85_12 rfl ?_
  refine W_iload_n d_85_13 rfl ?_
  refine W_if_ne (tgt := 22) d_85_14 (by decide) (fun h14 => absurd h14 (by decide)) (fun _ => ?_)
  refine W_bipush d_85_17 (v := 99) (by decide) ?_
  refine W_goto (tgt := 25) d_85_19 (by decide) ?_
  refine W_callS d_85_25 o_85 k_6_95 (by omega) x_126 rfl (Nat.le_of_ble_eq_true rfl) ?_
  refine W_if_ne (tgt := 34) d_85_28 (by decide) (fun h28 => absurd (bI_ne.mpr hv) h28) (fun h28 => ?_)
  refine W_bipush d_85_31 (v := (-7)) (by decide) ?_
  refine W_iret d_85_33 rt_85 rfl ?_
  exact ⟨rfl, rfl⟩
theorem p_85_1 {d : Nat} {g : mG} {N : Nat} {A T K : Nat → tR} {B : tR} {E : Nat → Int32} {l : Int64} {G : tR} {Qm : Nat → mC} {r0 r1 : Nat} (e0 : r0 = 0) (e1 : r1 = 1) {w : Int32} (hv : 0 ≤ w ∧ w ≤ 999) (hd : 4 ≤ d) : Ex d 85 [.ref 0, .int 1, .int w] (N, H3 g (cc A T K B E l G) Qm) (some (.int (A r0 12 3))) (N, H3 g (cc (u3 A r0 12 3 w) T K B E l G) Qm) := by
  refine Ex.of ?_
  show Wp _ 85 0 [.ref 0, .int 1, .int w, .null] [] _ _
  refine W_iload_n d_85_0 rfl ?_
  refine W_if_lt (tgt := 9) d_85_1 (by decide) (fun h1 => absurd h1 (by decide)) (fun _ => ?_)
  refine W_iload_n d_85_4 rfl ?_
  refine W_iconst d_85_5 (v := 1) (by decide) ?_
  refine W_icmp_le (tgt := 12) d_85_6 (by decide) (fun _ => ?_) (fun h6 => absurd h6 (by decide))
  refine W_iload_n d_85_12 rfl ?_
  refine W_iload_n d_85_13 rfl ?_
  refine W_if_ne (tgt := 22) d_85_14 (by decide) (fun _ => ?_) (fun h14 => absurd h14 (by decide))
  refine W_sipush d_85_22 (v := 999) (by decide) ?_
  refine W_callS d_85_25 o_85 k_6_95 (by omega) x_126 rfl (Nat.le_of_ble_eq_true rfl) ?_
  refine W_if_ne (tgt := 34) d_85_28 (by decide) (fun h28 => ?_) (fun h28 => absurd h28 (fun q => bI_f q hv))
  refine W_iload_n d_85_34 rfl ?_
  refine W_if_ne (tgt := 48) d_85_35 (by decide) (fun _ => ?_) (fun h35 => absurd h35 (by decide))
  refine W_aload_n d_85_48 rfl (by decide) ?_
  refine W_getf d_85_49 o_85 k_6_10 rfl rfl ?_
  show Wp _ _ _ _ (Value.ref (rb 0) :: _) _ _
  rw [show rb 0 = rb r0 from by rw [e0]]
  have hq0 : r0 < 3 := by omega
  refine W_getf d_85_52 o_85 k_6_86 (h_road (by assumption)) rfl ?_
  refine W_istore_n d_85_55 rfl ?_
  refine W_iload_n d_85_56 rfl ?_
  refine W_if_ne (tgt := 71) d_85_57 (by decide) (fun _ => ?_) (fun h57 => absurd h57 (by decide))
  refine W_aload_n d_85_71 rfl (by decide) ?_
  refine W_getf d_85_72 o_85 k_6_10 rfl rfl ?_
  show Wp _ _ _ _ (Value.ref (rb 0) :: _) _ _
  rw [show rb 0 = rb r0 from by rw [e0]]
  have hq0 : r0 < 3 := by omega
  refine W_iload_n d_85_75 rfl ?_
  refine W_putf d_85_76 o_85 k_6_86 (h_road (by assumption)) (Nat.le_of_ble_eq_true rfl) rfl (ms_rd7 (by assumption)) ?_
  refine W_iload_n d_85_79 rfl ?_
  refine W_iret d_85_80 rt_85 rfl ?_
  exact ⟨rfl, rfl⟩
theorem p_85_1n {d : Nat} {g : mG} {N : Nat} {A T K : Nat → tR} {B : tR} {E : Nat → Int32} {l : Int64} {G : tR} {Qm : Nat → mC} {r0 r1 : Nat} (e0 : r0 = 0) (e1 : r1 = 1) {w : Int32} (hv : ¬ (0 ≤ w ∧ w ≤ 999)) (hd : 4 ≤ d) : Ex d 85 [.ref 0, .int 1, .int w] (N, H3 g (cc A T K B E l G) Qm) (some (.int (-7))) (N, H3 g (cc A T K B E l G) Qm) := by
  refine Ex.of ?_
  show Wp _ 85 0 [.ref 0, .int 1, .int w, .null] [] _ _
  refine W_iload_n d_85_0 rfl ?_
  refine W_if_lt (tgt := 9) d_85_1 (by decide) (fun h1 => absurd h1 (by decide)) (fun _ => ?_)
  refine W_iload_n d_85_4 rfl ?_
  refine W_iconst d_85_5 (v := 1) (by decide) ?_
  refine W_icmp_le (tgt := 12) d_85_6 (by decide) (fun _ => ?_) (fun h6 => absurd h6 (by decide))
  refine W_iload_n d_85_12 rfl ?_
  refine W_iload_n d_85_13 rfl ?_
  refine W_if_ne (tgt := 22) d_85_14 (by decide) (fun _ => ?_) (fun h14 => absurd h14 (by decide))
  refine W_sipush d_85_22 (v := 999) (by decide) ?_
  refine W_callS d_85_25 o_85 k_6_95 (by omega) x_126 rfl (Nat.le_of_ble_eq_true rfl) ?_
  refine W_if_ne (tgt := 34) d_85_28 (by decide) (fun h28 => absurd (bI_ne.mpr hv) h28) (fun h28 => ?_)
  refine W_bipush d_85_31 (v := (-7)) (by decide) ?_
  refine W_iret d_85_33 rt_85 rfl ?_
  exact ⟨rfl, rfl⟩
def cnV (R B : tR) (E : Nat → Int32) (w : Int32) : Int32 := if w = 0 then R 12 0 else if w = 1 then R 12 1 else if w = 2 then R 12 2 else if w = 3 then R 12 3 else if w = 4 then E 1 else if w = 5 then R 12 4 else if w = 6 then B 1 0 else -2
theorem p_84 {d : Nat} {g : mG} {N : Nat} {A T K : Nat → tR} {B : tR} {E : Nat → Int32} {l : Int64} {G : tR} {Qm : Nat → mC} {r0 r1 : Nat} (e0 : r0 = 0) (e1 : r1 = 1) {w : Int32} (hd : 1 ≤ d) : Ex d 84 [.ref 0, .int w] (N, H3 g (cc A T K B E l G) Qm) (some (.int (cnV (A r0) B E w))) (N, H3 g (cc A T K B E l G) Qm) := by
  refine Ex.of ?_
  show Wp _ 84 0 [.ref 0, .int w] [] _ _
  refine W_iload_n d_84_0 rfl ?_
  by_cases s1_0 : w = 0
  · refine W_table (tgt := 44) d_84_1 (off := 43) (by rw [s1_0]; decide) (by decide) ?_
    refine W_aload_n d_84_44 rfl (by decide) ?_
    refine W_getf d_84_45 o_84 k_6_10 rfl rfl ?_
    show Wp _ _ _ _ (Value.ref (rb 0) :: _) _ _
    rw [show rb 0 = rb r0 from by rw [e0]]
    have hq0 : r0 < 3 := by omega
    refine W_getf d_84_48 o_84 k_6_77 (h_road (by assumption)) rfl ?_
    refine W_iret d_84_51 rt_84 rfl ?_
    subst s1_0
    exact ⟨rfl, rfl⟩
  by_cases s1_1 : w = 1
  · refine W_table (tgt := 52) d_84_1 (off := 51) (by rw [s1_1]; decide) (by decide) ?_
    refine W_aload_n d_84_52 rfl (by decide) ?_
    refine W_getf d_84_53 o_84 k_6_10 rfl rfl ?_
    show Wp _ _ _ _ (Value.ref (rb 0) :: _) _ _
    rw [show rb 0 = rb r0 from by rw [e0]]
    have hq0 : r0 < 3 := by omega
    refine W_getf d_84_56 o_84 k_6_80 (h_road (by assumption)) rfl ?_
    refine W_iret d_84_59 rt_84 rfl ?_
    subst s1_1
    exact ⟨rfl, rfl⟩
  by_cases s1_2 : w = 2
  · refine W_table (tgt := 60) d_84_1 (off := 59) (by rw [s1_2]; decide) (by decide) ?_
    refine W_aload_n d_84_60 rfl (by decide) ?_
    refine W_getf d_84_61 o_84 k_6_10 rfl rfl ?_
    show Wp _ _ _ _ (Value.ref (rb 0) :: _) _ _
    rw [show rb 0 = rb r0 from by rw [e0]]
    have hq0 : r0 < 3 := by omega
    refine W_getf d_84_64 o_84 k_6_83 (h_road (by assumption)) rfl ?_
    refine W_iret d_84_67 rt_84 rfl ?_
    subst s1_2
    exact ⟨rfl, rfl⟩
  by_cases s1_3 : w = 3
  · refine W_table (tgt := 68) d_84_1 (off := 67) (by rw [s1_3]; decide) (by decide) ?_
    refine W_aload_n d_84_68 rfl (by decide) ?_
    refine W_getf d_84_69 o_84 k_6_10 rfl rfl ?_
    show Wp _ _ _ _ (Value.ref (rb 0) :: _) _ _
    rw [show rb 0 = rb r0 from by rw [e0]]
    have hq0 : r0 < 3 := by omega
    refine W_getf d_84_72 o_84 k_6_86 (h_road (by assumption)) rfl ?_
    refine W_iret d_84_75 rt_84 rfl ?_
    subst s1_3
    exact ⟨rfl, rfl⟩
  by_cases s1_4 : w = 4
  · refine W_table (tgt := 76) d_84_1 (off := 75) (by rw [s1_4]; decide) (by decide) ?_
    refine W_aload_n d_84_76 rfl (by decide) ?_
    refine W_getf d_84_77 o_84 k_6_73 rfl rfl ?_
    refine W_iret d_84_80 rt_84 rfl ?_
    subst s1_4
    exact ⟨rfl, rfl⟩
  by_cases s1_5 : w = 5
  · refine W_table (tgt := 81) d_84_1 (off := 80) (by rw [s1_5]; decide) (by decide) ?_
    refine W_aload_n d_84_81 rfl (by decide) ?_
    refine W_getf d_84_82 o_84 k_6_10 rfl rfl ?_
    show Wp _ _ _ _ (Value.ref (rb 0) :: _) _ _
    rw [show rb 0 = rb r0 from by rw [e0]]
    have hq0 : r0 < 3 := by omega
    refine W_getf d_84_85 o_84 k_6_89 (h_road (by assumption)) rfl ?_
    refine W_iret d_84_88 rt_84 rfl ?_
    subst s1_5
    exact ⟨rfl, rfl⟩
  by_cases s1_6 : w = 6
  · refine W_table (tgt := 89) d_84_1 (off := 88) (by rw [s1_6]; decide) (by decide) ?_
    refine W_aload_n d_84_89 rfl (by decide) ?_
    refine W_getf d_84_90 o_84 k_6_25 rfl rfl ?_
    refine W_getf d_84_93 o_84 k_6_92 rfl rfl ?_
    refine W_iret d_84_96 rt_84 rfl ?_
    subst s1_6
    exact ⟨rfl, rfl⟩
  refine W_table (tgt := 97) d_84_1 (off := 96) (if_pos (by have q0 := lv_neT (a := 0) s1_0 (by decide); have q1 := lv_neT (a := 1) s1_1 (by decide); have q2 := lv_neT (a := 2) s1_2 (by decide); have q3 := lv_neT (a := 3) s1_3 (by decide); have q4 := lv_neT (a := 4) s1_4 (by decide); have q5 := lv_neT (a := 5) s1_5 (by decide); have q6 := lv_neT (a := 6) s1_6 (by decide); omega)) (by decide) ?_
  refine W_bipush d_84_97 (v := (-2)) (by decide) ?_
  refine W_iret d_84_99 rt_84 rfl ?_
  exact ⟨congrArg (fun z => some (Value.int z)) (by unfold cnV; rw [if_neg (by assumption), if_neg (by assumption), if_neg (by assumption), if_neg (by assumption), if_neg (by assumption), if_neg (by assumption), if_neg (by assumption)]), rfl⟩
theorem p_88a {d : Nat} {g : mG} {N : Nat} {A T K : Nat → tR} {B : tR} {E : Nat → Int32} {l : Int64} {G : tR} {Qm : Nat → mC} {r0 r1 : Nat} (e0 : r0 = 0) (e1 : r1 = 1) {v : Int32} (hb : ¬ (0 ≤ v ∧ v < E 1)) (hd : 4 ≤ d) : Ex d 88 [.ref 0, .int v] (N, H3 g (cc A T K B E l G) Qm) (some (.int (-2))) (N, H3 g (cc A T K B E l G) Qm) := by
  refine Ex.of ?_
  show Wp _ 88 0 [.ref 0, .int v, .null] [] _ _
  refine W_iload_n d_88_0 rfl ?_
  refine W_if_lt (tgt := 12) d_88_1 (by decide) (fun h1 => ?_) (fun h1 => ?_)
  · refine W_bipush d_88_12 (v := (-2)) (by decide) ?_
    refine W_iret d_88_14 rt_88 rfl ?_
    exact ⟨rfl, rfl⟩
  · refine W_iload_n d_88_4 rfl ?_
    refine W_aload_n d_88_5 rfl (by decide) ?_
    refine W_getf d_88_6 o_88 k_6_73 rfl rfl ?_
    refine W_icmp_lt (tgt := 15) d_88_9 (by decide) (fun h9 => ?_) (fun h9 => ?_)
    · exact (hb ⟨Int32.not_lt.mp h1, h9⟩).elim
    · refine W_bipush d_88_12 (v := (-2)) (by decide) ?_
      refine W_iret d_88_14 rt_88 rfl ?_
      exact ⟨rfl, rfl⟩
theorem p_88 {d : Nat} {g : mG} {N : Nat} {A T K : Nat → tR} {B : tR} {E : Nat → Int32} {l : Int64} {G : tR} {Qm : Nat → mC} {r0 r1 : Nat} (e0 : r0 = 0) (e1 : r1 = 1) {v : Int32} (hv : 0 ≤ v ∧ v < E 1) (hd : 4 ≤ d) : Ex d 88 [.ref 0, .int v] (N, H3 g (cc A T K B E l G) Qm) (some (.int (A r0 12 4))) (N, H3 g (cc (u3 A r0 12 4 v) T K B E l G) Qm) := by
  refine Ex.of ?_
  show Wp _ 88 0 [.ref 0, .int v, .null] [] _ _
  refine W_iload_n d_88_0 rfl ?_
  refine W_if_lt (tgt := 12) d_88_1 (by decide) (fun h1 => absurd h1 (Int32.not_lt.mpr hv.1)) (fun h1 => ?_)
  refine W_iload_n d_88_4 rfl ?_
  refine W_aload_n d_88_5 rfl (by decide) ?_
  refine W_getf d_88_6 o_88 k_6_73 rfl rfl ?_
  refine W_icmp_lt (tgt := 15) d_88_9 (by decide) (fun h9 => ?_) (fun h9 => absurd hv.2 h9)
  refine W_aload_n d_88_15 rfl (by decide) ?_
  refine W_getf d_88_16 o_88 k_6_10 rfl rfl ?_
  show Wp _ _ _ _ (Value.ref (rb 0) :: _) _ _
  rw [show rb 0 = rb r0 from by rw [e0]]
  have hq0 : r0 < 3 := by omega
  refine W_getf d_88_19 o_88 k_6_89 (h_road (by assumption)) rfl ?_
  refine W_istore_n d_88_22 rfl ?_
  refine W_aload_n d_88_23 rfl (by decide) ?_
  refine W_getf d_88_24 o_88 k_6_10 rfl rfl ?_
  show Wp _ _ _ _ (Value.ref (rb 0) :: _) _ _
  rw [show rb 0 = rb r0 from by rw [e0]]
  have hq0 : r0 < 3 := by omega
  refine W_iload_n d_88_27 rfl ?_
  refine W_putf d_88_28 o_88 k_6_89 (h_road (by assumption)) (Nat.le_of_ble_eq_true rfl) rfl (ms_rd8 (by assumption)) ?_
  refine W_iload_n d_88_31 rfl ?_
  refine W_iret d_88_32 rt_88 rfl ?_
  exact ⟨rfl, rfl⟩
theorem p_89a {d : Nat} {g : mG} {N : Nat} {A T K : Nat → tR} {B : tR} {E : Nat → Int32} {l : Int64} {G : tR} {Qm : Nat → mC} {r0 r1 : Nat} (e0 : r0 = 0) (e1 : r1 = 1) {v w u : Int32} (hb : ¬ (0 ≤ v ∧ v < 3 ∧ (0 ≤ w ∧ w < A r0 12 0) ∧ (0 ≤ u ∧ u ≤ 999))) (hd : 4 ≤ d) : Ex d 89 [.ref 0, .int v, .int w, .int u] (N, H3 g (cc A T K B E l G) Qm) (some (.int (-2))) (N, H3 g (cc A T K B E l G) Qm) := by
  refine Ex.of ?_
  show Wp _ 89 0 [.ref 0, .int v, .int w, .int u] [] _ _
  refine W_iload_n d_89_0 rfl ?_
  refine W_if_lt (tgt := 30) d_89_1 (by decide) (fun h1 => ?_) (fun h1 => ?_)
  · refine W_bipush d_89_30 (v := (-2)) (by decide) ?_
    refine W_iret d_89_32 rt_89 rfl ?_
    exact ⟨rfl, rfl⟩
  · refine W_iload_n d_89_4 rfl ?_
    refine W_iconst d_89_5 (v := 3) (by decide) ?_
    refine W_icmp_ge (tgt := 30) d_89_6 (by decide) (fun h6 => ?_) (fun h6 => ?_)
    · refine W_bipush d_89_30 (v := (-2)) (by decide) ?_
      refine W_iret d_89_32 rt_89 rfl ?_
      exact ⟨rfl, rfl⟩
    · refine W_aload_n d_89_9 rfl (by decide) ?_
      refine W_getf d_89_10 o_89 k_6_10 rfl rfl ?_
      show Wp _ _ _ _ (Value.ref (rb 0) :: _) _ _
      rw [show rb 0 = rb r0 from by rw [e0]]
      have hq0 : r0 < 3 := by omega
      refine W_iload_n d_89_13 rfl ?_
      refine W_callV d_89_14 o_89 (Or.inl k_6_103) (by omega) (x_56 (show r0 < 3 by omega)) rfl (mrecv_of (h_road (by assumption)) o_56.symm) rfl (Nat.le_of_ble_eq_true rfl) ?_
      refine W_if_eq (tgt := 30) d_89_17 (by decide) (fun h17 => ?_) (fun h17 => ?_)
      · refine W_bipush d_89_30 (v := (-2)) (by decide) ?_
        refine W_iret d_89_32 rt_89 rfl ?_
        exact ⟨rfl, rfl⟩
      · refine W_iload_n d_89_20 rfl ?_
        refine W_sipush d_89_21 (v := 999) (by decide) ?_
        refine W_callS d_89_24 o_89 k_6_95 (by omega) x_126 rfl (Nat.le_of_ble_eq_true rfl) ?_
        refine W_if_ne (tgt := 33) d_89_27 (by decide) (fun h27 => ?_) (fun h27 => ?_)
        · exact (hb ⟨Int32.not_lt.mp h1, Int32.not_le.mp h6, bI_t h17, bI_t h27⟩).elim
        · refine W_bipush d_89_30 (v := (-2)) (by decide) ?_
          refine W_iret d_89_32 rt_89 rfl ?_
          exact ⟨rfl, rfl⟩
theorem p_89 {d : Nat} {g : mG} {N : Nat} {A T K : Nat → tR} {B : tR} {E : Nat → Int32} {l : Int64} {G : tR} {Qm : Nat → mC} {r0 r1 : Nat} (e0 : r0 = 0) (e1 : r1 = 1) {z : Nat → Nat} {n p t : Nat} (hX : CX (A r0) T z n p t) {j k : Nat} (hj : j < n) (hk : k < 3) {u : Int32} (hu : 0 ≤ u ∧ u ≤ 999) (hd : 9 ≤ d) : Wp d 89 0 (ment 89 [.ref 0, .int (nI k), .int (nI j), .int u]) [] (N, H3 g (cc A T K B E l G) Qm) (fun v M' => v = some (.int (sq (A r0) (T t) z k (nI j) (A r0 1 j) (A r0 3 j) u)) ∧ ∃ A' l' G', M' = (N, H3 g (cc A' T K B E l' G') Qm) ∧ ∀ r, ¬ r = r1 → A' r = A r) := by
  obtain ⟨hn, hn12, hp, hp6, hlw, ht, hL⟩ := hX
  show Wp _ 89 0 [.ref 0, .int (nI k), .int (nI j), .int u] [] _ _
  refine W_iload_n d_89_0 rfl ?_
  refine W_if_lt (tgt := 30) d_89_1 (by decide) (fun h1 => absurd h1 (nI_nlt (a := k) (b := 0) (by omega) (by omega))) (fun h1 => ?_)
  refine W_iload_n d_89_4 rfl ?_
  refine W_iconst d_89_5 (v := 3) (by decide) ?_
  refine W_icmp_ge (tgt := 30) d_89_6 (by decide) (fun h6 => absurd h6 (nI_ge (a := k) (b := 3) (by omega) (by omega))) (fun h6 => ?_)
  refine W_aload_n d_89_9 rfl (by decide) ?_
  refine W_getf d_89_10 o_89 k_6_10 rfl rfl ?_
  show Wp _ _ _ _ (Value.ref (rb 0) :: _) _ _
  rw [show rb 0 = rb r0 from by rw [e0]]
  have hq0 : r0 < 3 := by omega
  refine W_iload_n d_89_13 rfl ?_
  refine W_callV d_89_14 o_89 (Or.inl k_6_103) (by omega) (x_56 (show r0 < 3 by omega)) rfl (mrecv_of (h_road (by assumption)) o_56.symm) rfl (Nat.le_of_ble_eq_true rfl) ?_
  refine W_if_eq (tgt := 30) d_89_17 (by decide) (fun h17 => absurd h17 (fun q => bI_f q ⟨nI_pos' (by omega), by rw [hn]; exact nI_lt hj (by omega)⟩)) (fun h17 => ?_)
  refine W_iload_n d_89_20 rfl ?_
  refine W_sipush d_89_21 (v := 999) (by decide) ?_
  refine W_callS d_89_24 o_89 k_6_95 (by omega) x_126 rfl (Nat.le_of_ble_eq_true rfl) ?_
  refine W_if_ne (tgt := 33) d_89_27 (by decide) (fun h27 => ?_) (fun h27 => absurd h27 (fun q => bI_f q hu))
  refine W_aload_n d_89_33 rfl (by decide) ?_
  refine W_getf d_89_34 o_89 k_6_10 rfl rfl ?_
  show Wp _ _ _ _ (Value.ref (rb 0) :: _) _ _
  rw [show rb 0 = rb r0 from by rw [e0]]
  have hq0 : r0 < 3 := by omega
  refine W_iload_n d_89_37 rfl ?_
  refine W_aload_n d_89_38 rfl (by decide) ?_
  refine W_getf d_89_39 o_89 k_6_31 rfl rfl ?_
  refine W_aload_n d_89_42 rfl (by decide) ?_
  refine W_getf d_89_43 o_89 k_6_10 rfl rfl ?_
  show Wp _ _ _ _ (Value.ref (rb 0) :: _) _ _
  rw [show rb 0 = rb r0 from by rw [e0]]
  have hq0 : r0 < 3 := by omega
  refine W_getf d_89_46 o_89 k_6_89 (h_road (by assumption)) rfl ?_
  rw [hlw]
  refine W_aald d_89_49 rfl (vp_in_nI (by omega) (by decide)) (txa_v (by omega)) ?_
  refine W_iload_n d_89_50 rfl ?_
  refine W_iload_n d_89_51 rfl ?_
  refine W_callVG d_89_52 o_89 (Or.inl k_6_106) (by omega) (x_68 (show r0 < 3 by omega) ht hL hk (j := j) (by omega) (by omega)) rfl (mrecv_of (h_road (by assumption)) o_68.symm) rfl (Nat.le_of_ble_eq_true rfl) (fun G' => ?_)
  refine W_iret d_89_55 rt_89 rfl ?_
  exact ⟨rfl, A, l, _, rfl, fun _ _ => rfl⟩
theorem p_115 {d : Nat} {g : mG} {N : Nat} {A T K : Nat → tR} {B : tR} {E : Nat → Int32} {l : Int64} {G : tR} {Qm : Nat → mC} {r0 r1 : Nat} (e0 : r0 = 0) (e1 : r1 = 1) {r2 : Nat} (e2 : r2 = 2) {n : Nat} (hn : A r0 12 0 = nI n) (hn12 : n ≤ 12) (hd : 4 ≤ d) : Ex d 115 [.ref 0] (N, H3 g (cc A T K B E l G) Qm) (some (.int (nI n))) (N, H3 g (cc (bkA A r2 r0 n) T K B (va_up E 0 1) l G) Qm) := by
  refine Ex.of ?_
  show Wp _ 115 0 [.ref 0] [] _ _
  refine W_aload_n d_115_0 rfl (by decide) ?_
  refine W_getf d_115_1 o_115 k_6_19 rfl rfl ?_
  show Wp _ _ _ _ (Value.ref (rb 2) :: _) _ _
  rw [show rb 2 = rb r2 from by rw [e2]]
  have hq2 : r2 < 3 := by omega
  refine W_aload_n d_115_4 rfl (by decide) ?_
  refine W_getf d_115_5 o_115 k_6_10 rfl rfl ?_
  show Wp _ _ _ _ (Value.ref (rb 0) :: _) _ _
  rw [show rb 0 = rb r0 from by rw [e0]]
  have hq0 : r0 < 3 := by omega
  refine W_callV d_115_8 o_115 (Or.inl k_6_253) (by omega) (x_61 (show r2 < 3 by omega) (show r0 < 3 by omega) (by omega) hn hn12 (by omega)) rfl (mrecv_of (h_road (by assumption)) o_61.symm) rfl (Nat.le_of_ble_eq_true rfl) ?_
  refine W_aload_n d_115_11 rfl (by decide) ?_
  refine W_iconst d_115_12 (v := 1) (by decide) ?_
  refine W_putf d_115_13 o_115 k_6_257 rfl (Nat.le_of_ble_eq_true rfl) rfl ms_rt3 ?_
  refine W_aload_n d_115_16 rfl (by decide) ?_
  refine W_getf d_115_17 o_115 k_6_19 rfl rfl ?_
  show Wp _ _ _ _ (Value.ref (rb 2) :: _) _ _
  rw [show rb 2 = rb r2 from by rw [e2]]
  have hq2 : r2 < 3 := by omega
  refine W_getf d_115_20 o_115 k_6_77 (h_road (by assumption)) rfl ?_
  refine W_iret d_115_23 rt_115 rfl ?_
  exact ⟨congrArg (fun z => some (Value.int z)) ((bkA_12 _ _ _ _ 0 (by decide)).trans hn), rfl⟩
theorem p_116a {d : Nat} {g : mG} {N : Nat} {A T K : Nat → tR} {B : tR} {E : Nat → Int32} {l : Int64} {G : tR} {Qm : Nat → mC} {r0 r1 : Nat} (e0 : r0 = 0) (e1 : r1 = 1) {r2 : Nat} (e2 : r2 = 2) (hk : E 0 = 0) (hd : 4 ≤ d) : Ex d 116 [.ref 0] (N, H3 g (cc A T K B E l G) Qm) (some (.int (-3))) (N, H3 g (cc A T K B E l G) Qm) := by
  refine Ex.of ?_
  show Wp _ 116 0 [.ref 0] [] _ _
  refine W_aload_n d_116_0 rfl (by decide) ?_
  refine W_getf d_116_1 o_116 k_6_257 rfl rfl ?_
  refine W_if_ne (tgt := 10) d_116_4 (by decide) (fun h4 => absurd hk h4) (fun h4 => ?_)
  refine W_bipush d_116_7 (v := (-3)) (by decide) ?_
  refine W_iret d_116_9 rt_116 rfl ?_
  exact ⟨rfl, rfl⟩
theorem p_116 {d : Nat} {g : mG} {N : Nat} {A T K : Nat → tR} {B : tR} {E : Nat → Int32} {l : Int64} {G : tR} {Qm : Nat → mC} {r0 r1 : Nat} (e0 : r0 = 0) (e1 : r1 = 1) {r2 : Nat} (e2 : r2 = 2) (hk : ¬ E 0 = 0) {n : Nat} (hn : A r2 12 0 = nI n) (hn12 : n ≤ 12) (hd : 4 ≤ d) : Ex d 116 [.ref 0] (N, H3 g (cc A T K B E l G) Qm) (some (.int (nI n))) (N, H3 g (cc (bkA A r0 r2 n) T K B E l G) Qm) := by
  refine Ex.of ?_
  show Wp _ 116 0 [.ref 0] [] _ _
  refine W_aload_n d_116_0 rfl (by decide) ?_
  refine W_getf d_116_1 o_116 k_6_257 rfl rfl ?_
  refine W_if_ne (tgt := 10) d_116_4 (by decide) (fun h4 => ?_) (fun h4 => absurd h4 hk)
  refine W_aload_n d_116_10 rfl (by decide) ?_
  refine W_getf d_116_11 o_116 k_6_10 rfl rfl ?_
  show Wp _ _ _ _ (Value.ref (rb 0) :: _) _ _
  rw [show rb 0 = rb r0 from by rw [e0]]
  have hq0 : r0 < 3 := by omega
  refine W_aload_n d_116_14 rfl (by decide) ?_
  refine W_getf d_116_15 o_116 k_6_19 rfl rfl ?_
  show Wp _ _ _ _ (Value.ref (rb 2) :: _) _ _
  rw [show rb 2 = rb r2 from by rw [e2]]
  have hq2 : r2 < 3 := by omega
  refine W_callV d_116_18 o_116 (Or.inl k_6_253) (by omega) (x_61 (show r0 < 3 by omega) (show r2 < 3 by omega) (by omega) hn hn12 (by omega)) rfl (mrecv_of (h_road (by assumption)) o_61.symm) rfl (Nat.le_of_ble_eq_true rfl) ?_
  refine W_aload_n d_116_21 rfl (by decide) ?_
  refine W_getf d_116_22 o_116 k_6_10 rfl rfl ?_
  show Wp _ _ _ _ (Value.ref (rb 0) :: _) _ _
  rw [show rb 0 = rb r0 from by rw [e0]]
  have hq0 : r0 < 3 := by omega
  refine W_getf d_116_25 o_116 k_6_77 (h_road (by assumption)) rfl ?_
  refine W_iret d_116_28 rt_116 rfl ?_
  exact ⟨congrArg (fun z => some (Value.int z)) ((bkA_12 _ _ _ _ 0 (by decide)).trans hn), rfl⟩
