/-! THE PUBLIC METHODS (wip/whole/gen22.py) -/
def lvA (A : Nat → tR) (r n : Nat) : Nat → tR := ftA (u3 A r 12 5 0) r n
theorem lvA_12 (A : Nat → tR) (r n b : Nat) (h : ¬ b = 5) : lvA A r n r 12 b = A r 12 b := by
  rw [lvA, ftA_ap, if_neg (by omega), u3_ap, if_neg (by omega)]
theorem x_96f {d : Nat} {g : mG} {N : Nat} {A T K : Nat → tR} {B : tR} {E : Nat → Int32} {l : Int64} {G : tR} {Qm : Nat → mC} {r0 r1 : Nat} (e0 : r0 = 0) (e1 : r1 = 1) (hh : ¬ A r0 12 2 < 999) (hd : 4 ≤ d) : Ex d 96 [.ref 0] (N, H3 g (cc A T K B E l G) Qm) (some (.int (-4))) (N, H3 g (cc A T K B E l G) Qm) := by
  refine Ex.of ?_
  show Wp _ 96 0 [.ref 0] [] _ _
  refine W_aload_n d_96_0 rfl (by decide) ?_
  refine W_getf d_96_1 o_96 k_6_10 rfl rfl ?_
  show Wp _ _ _ _ (Value.ref (rb 0) :: _) _ _
  rw [show rb 0 = rb r0 from by rw [e0]]
  have hq0 : r0 < 3 := by omega
  refine W_getf d_96_4 o_96 k_6_83 (h_road (by assumption)) rfl ?_
  refine W_sipush d_96_7 (v := 999) (by decide) ?_
  refine W_icmp_lt (tgt := 16) d_96_10 (by decide) (fun h10 => absurd h10 hh) (fun h10 => ?_)
  refine W_bipush d_96_13 (v := (-4)) (by decide) ?_
  refine W_iret d_96_15 rt_96 rfl ?_
  exact ⟨rfl, rfl⟩
theorem x_96 {d : Nat} {g : mG} {N : Nat} {A T K : Nat → tR} {B : tR} {E : Nat → Int32} {l : Int64} {G : tR} {Qm : Nat → mC} {r0 r1 : Nat} (e0 : r0 = 0) (e1 : r1 = 1) {n : Nat} (hn : A r0 12 0 = nI n) (hn12 : n ≤ 12) {t : Nat} (ht : t < 6) {z : Nat → Nat} (hL : Lw (T t) z) {p : Nat} (hp : A r0 12 1 = nI p) (hp6 : p ≤ 6) (hlw : A r0 12 4 = nI t) (hh : A r0 12 2 < 999) (hd : 4 ≤ d) : ∃ G', Ex d 96 [.ref 0] (N, H3 g (cc A T K B E l G) Qm) (some (.int (sm7 (hrA (lvA A r0 n) r0 (T t) z n p r0) n))) (N, H3 g (cc (hrA (lvA A r0 n) r0 (T t) z n p) T K B E l G') Qm) := by
  refine ExG (f := fun G' => (N, H3 g (cc (hrA (lvA A r0 n) r0 (T t) z n p) T K B E l G') Qm)) ?_
  show Wp _ 96 0 [.ref 0] [] _ _
  refine W_aload_n d_96_0 rfl (by decide) ?_
  refine W_getf d_96_1 o_96 k_6_10 rfl rfl ?_
  show Wp _ _ _ _ (Value.ref (rb 0) :: _) _ _
  rw [show rb 0 = rb r0 from by rw [e0]]
  have hq0 : r0 < 3 := by omega
  refine W_getf d_96_4 o_96 k_6_83 (h_road (by assumption)) rfl ?_
  refine W_sipush d_96_7 (v := 999) (by decide) ?_
  refine W_icmp_lt (tgt := 16) d_96_10 (by decide) (fun h10 => ?_) (fun h10 => absurd hh h10)
  refine W_aload_n d_96_16 rfl (by decide) ?_
  refine W_getf d_96_17 o_96 k_6_10 rfl rfl ?_
  show Wp _ _ _ _ (Value.ref (rb 0) :: _) _ _
  rw [show rb 0 = rb r0 from by rw [e0]]
  have hq0 : r0 < 3 := by omega
  refine W_callV d_96_20 o_96 (Or.inl k_6_157) (by omega) (x_62 (show r0 < 3 by omega) hn hn12) rfl (mrecv_of (h_road (show r0 < 3 by omega)) o_62.symm) rfl (Nat.le_of_ble_eq_true rfl) ?_
  show Wp _ _ _ _ _ (N, H3 g (cc (lvA A r0 n) T K B E l G) Qm) _
  refine W_aload_n d_96_23 rfl (by decide) ?_
  refine W_getf d_96_24 o_96 k_6_10 rfl rfl ?_
  show Wp _ _ _ _ (Value.ref (rb 0) :: _) _ _
  rw [show rb 0 = rb r0 from by rw [e0]]
  have hq0 : r0 < 3 := by omega
  refine W_aload_n d_96_27 rfl (by decide) ?_
  refine W_getf d_96_28 o_96 k_6_31 rfl rfl ?_
  refine W_aload_n d_96_31 rfl (by decide) ?_
  refine W_getf d_96_32 o_96 k_6_10 rfl rfl ?_
  show Wp _ _ _ _ (Value.ref (rb 0) :: _) _ _
  rw [show rb 0 = rb r0 from by rw [e0]]
  have hq0 : r0 < 3 := by omega
  refine W_getf d_96_35 o_96 k_6_89 (h_road (by assumption)) rfl ?_
  rw [show lvA A r0 n r0 12 4 = nI t from (lvA_12 _ _ _ _ (by decide)).trans hlw]
  refine W_aald d_96_38 rfl (vp_in_nI (by omega) (by decide)) (txa_v (by omega)) ?_
  refine W_callVG d_96_39 o_96 (Or.inl k_6_160) (by omega) (x_64 (show r0 < 3 by omega) ht hL ((lvA_12 _ _ _ _ (by decide)).trans hn) hn12 ((lvA_12 _ _ _ _ (by decide)).trans hp) hp6 (by omega)) rfl (mrecv_of (h_road (show r0 < 3 by omega)) o_64.symm) rfl (Nat.le_of_ble_eq_true rfl) (fun G' => ?_)
  refine W_aload_n d_96_42 rfl (by decide) ?_
  refine W_getf d_96_43 o_96 k_6_10 rfl rfl ?_
  show Wp _ _ _ _ (Value.ref (rb 0) :: _) _ _
  rw [show rb 0 = rb r0 from by rw [e0]]
  have hq0 : r0 < 3 := by omega
  refine W_callV d_96_46 o_96 (Or.inl k_6_164) (by omega) (x_71 (show r0 < 3 by omega) (n := n) ((hrA_ap _ _ _ _ _ _ _ _ (by decide)).trans ((lvA_12 _ _ _ _ (by decide)).trans hn)) hn12) rfl (mrecv_of (h_road (show r0 < 3 by omega)) o_71.symm) rfl (Nat.le_of_ble_eq_true rfl) ?_
  refine W_iret d_96_49 rt_96 rfl ?_
  exact ⟨rfl, _, rfl⟩
def cmv (R : tR) (v : Int32) : Int32 := if 0 ≤ v ∧ v < R 12 1 then 10 * R 10 v.toNatClampNeg + R 11 v.toNatClampNeg else -6
theorem x_95 {d : Nat} {g : mG} {N : Nat} {A T K : Nat → tR} {B : tR} {E : Nat → Int32} {l : Int64} {G : tR} {Qm : Nat → mC} {r0 r1 : Nat} (e0 : r0 = 0) (e1 : r1 = 1) {p : Nat} (hp : A r0 12 1 = nI p) (hp6 : p ≤ 6) {v : Int32} (hd : 1 ≤ d) : Ex d 95 [.ref 0, .int v] (N, H3 g (cc A T K B E l G) Qm) (some (.int (cmv (A r0) v))) (N, H3 g (cc A T K B E l G) Qm) := by
  refine Ex.of ?_
  show Wp _ 95 0 [.ref 0, .int v] [] _ _
  refine W_aload_n d_95_0 rfl (by decide) ?_
  refine W_getf d_95_1 o_95 k_6_10 rfl rfl ?_
  show Wp _ _ _ _ (Value.ref (rb 0) :: _) _ _
  rw [show rb 0 = rb r0 from by rw [e0]]
  have hq0 : r0 < 3 := by omega
  refine W_iload_n d_95_4 rfl ?_
  refine W_callV d_95_5 o_95 (Or.inl k_6_145) (by omega) (x_57 (show r0 < 3 by omega)) rfl (mrecv_of (h_road (show r0 < 3 by omega)) o_57.symm) rfl (Nat.le_of_ble_eq_true rfl) ?_
  refine W_if_eq (tgt := 36) d_95_8 (by decide) (fun h8 => ?_) (fun h8 => ?_)
  · have hc : cmv (A r0) v = -6 := if_neg (bI_f h8)
    rw [hc]
    refine W_bipush d_95_36 (v := (-6)) (by decide) ?_
    refine W_iret d_95_38 rt_95 rfl ?_
    exact ⟨rfl, rfl⟩
  · obtain ⟨j, hj, ej⟩ := own_ix (n := p) (hp ▸ bI_t h8) (by omega)
    have hc : cmv (A r0) v = 10 * A r0 10 j + A r0 11 j := by rw [cmv, if_pos (bI_t h8), ej, nI_clamp (show j < 2 ^ 31 by omega)]
    rw [hc, ej]
    have hj6 : j < 6 := by omega
    refine W_bipush d_95_11 (v := 10) (by decide) ?_
    refine W_aload_n d_95_13 rfl (by decide) ?_
    refine W_getf d_95_14 o_95 k_6_10 rfl rfl ?_
    show Wp _ _ _ _ (Value.ref (rb 0) :: _) _ _
    rw [show rb 0 = rb r0 from by rw [e0]]
    have hq0 : r0 < 3 := by omega
    refine W_getf d_95_17 o_95 k_6_151 (h_road (by assumption)) rfl ?_
    refine W_iload_n d_95_20 rfl ?_
    refine W_iald d_95_21 (h_pho (by assumption)) (by decide) (vp_in_nI (by omega) (by decide)) (congrArg _ (nI_clamp (by omega))) ?_
    refine W_imul d_95_22 ?_
    refine W_aload_n d_95_23 rfl (by decide) ?_
    refine W_getf d_95_24 o_95 k_6_10 rfl rfl ?_
    show Wp _ _ _ _ (Value.ref (rb 0) :: _) _ _
    rw [show rb 0 = rb r0 from by rw [e0]]
    have hq0 : r0 < 3 := by omega
    refine W_getf d_95_27 o_95 k_6_154 (h_road (by assumption)) rfl ?_
    refine W_iload_n d_95_30 rfl ?_
    refine W_iald d_95_31 (h_psi (by assumption)) (by decide) (vp_in_nI (by omega) (by decide)) (congrArg _ (nI_clamp (by omega))) ?_
    refine W_iadd d_95_32 ?_
    refine W_goto (tgt := 38) d_95_33 (by decide) ?_
    refine W_iret d_95_38 rt_95 rfl ?_
    exact ⟨rfl, rfl⟩
theorem x_93b {d : Nat} {g : mG} {N : Nat} {A T K : Nat → tR} {B : tR} {E : Nat → Int32} {l : Int64} {G : tR} {Qm : Nat → mC} {r0 r1 : Nat} (e0 : r0 = 0) (e1 : r1 = 1) {a t : Int32} (hb : ¬ ((0 ≤ a ∧ a ≤ 23) ∧ (0 ≤ t ∧ t ≤ 1))) (hd : 2 ≤ d) : Ex d 93 [.ref 0, .int a, .int t] (N, H3 g (cc A T K B E l G) Qm) (some (.int (-2))) (N, H3 g (cc A T K B E l G) Qm) := by
  refine Ex.of ?_
  show Wp _ 93 0 [.ref 0, .int a, .int t] [] _ _
  refine W_iload_n d_93_0 rfl ?_
  refine W_callS d_93_1 o_93 k_6_110 (by omega) (x_128 (by omega)) rfl (Nat.le_of_ble_eq_true rfl) ?_
  refine W_if_eq (tgt := 14) d_93_4 (by decide) (fun h4 => ?_) (fun h4 => ?_)
  · refine W_bipush d_93_14 (v := (-2)) (by decide) ?_
    refine W_iret d_93_16 rt_93 rfl ?_
    exact ⟨rfl, rfl⟩
  · refine W_iload_n d_93_7 rfl ?_
    refine W_callS d_93_8 o_93 k_6_138 (by omega) (x_129 (by omega)) rfl (Nat.le_of_ble_eq_true rfl) ?_
    refine W_if_ne (tgt := 17) d_93_11 (by decide) (fun h11 => ?_) (fun h11 => ?_)
    · exact absurd ⟨bI_t h4, bI_t h11⟩ hb
    · refine W_bipush d_93_14 (v := (-2)) (by decide) ?_
      refine W_iret d_93_16 rt_93 rfl ?_
      exact ⟨rfl, rfl⟩
theorem x_93f {d : Nat} {g : mG} {N : Nat} {A T K : Nat → tR} {B : tR} {E : Nat → Int32} {l : Int64} {G : tR} {Qm : Nat → mC} {r0 r1 : Nat} (e0 : r0 = 0) (e1 : r1 = 1) {a t : Int32} (hb : (0 ≤ a ∧ a ≤ 23) ∧ (0 ≤ t ∧ t ≤ 1)) (hp : A r0 12 1 = nI 6) (hd : 2 ≤ d) : Ex d 93 [.ref 0, .int a, .int t] (N, H3 g (cc A T K B E l G) Qm) (some (.int (-4))) (N, H3 g (cc A T K B E l G) Qm) := by
  refine Ex.of ?_
  show Wp _ 93 0 [.ref 0, .int a, .int t] [] _ _
  refine W_iload_n d_93_0 rfl ?_
  refine W_callS d_93_1 o_93 k_6_110 (by omega) (x_128 (by omega)) rfl (Nat.le_of_ble_eq_true rfl) ?_
  refine W_if_eq (tgt := 14) d_93_4 (by decide) (fun h4 => absurd h4 (fun q => bI_f q hb.1)) (fun h4 => ?_)
  refine W_iload_n d_93_7 rfl ?_
  refine W_callS d_93_8 o_93 k_6_138 (by omega) (x_129 (by omega)) rfl (Nat.le_of_ble_eq_true rfl) ?_
  refine W_if_ne (tgt := 17) d_93_11 (by decide) (fun h11 => ?_) (fun h11 => absurd h11 (fun q => bI_f q hb.2))
  refine W_aload_n d_93_17 rfl (by decide) ?_
  refine W_getf d_93_18 o_93 k_6_10 rfl rfl ?_
  show Wp _ _ _ _ (Value.ref (rb 0) :: _) _ _
  rw [show rb 0 = rb r0 from by rw [e0]]
  have hq0 : r0 < 3 := by omega
  refine W_iload_n d_93_21 rfl ?_
  refine W_iload_n d_93_22 rfl ?_
  refine W_callV d_93_23 o_93 (Or.inl k_6_141) (by omega) (x_59f (show r0 < 3 by omega) hp) rfl (mrecv_of (h_road (show r0 < 3 by omega)) o_59.symm) rfl (Nat.le_of_ble_eq_true rfl) ?_
  refine W_iret d_93_26 rt_93 rfl ?_
  exact ⟨rfl, rfl⟩
theorem x_93 {d : Nat} {g : mG} {N : Nat} {A T K : Nat → tR} {B : tR} {E : Nat → Int32} {l : Int64} {G : tR} {Qm : Nat → mC} {r0 r1 : Nat} (e0 : r0 = 0) (e1 : r1 = 1) {a t : Int32} (hb : (0 ≤ a ∧ a ≤ 23) ∧ (0 ≤ t ∧ t ≤ 1)) {p : Nat} (hp : A r0 12 1 = nI p) (hp6 : p < 6) (hd : 2 ≤ d) : Ex d 93 [.ref 0, .int a, .int t] (N, H3 g (cc A T K B E l G) Qm) (some (.int (nI (p + 1)))) (N, H3 g (cc (apA A r0 p a t) T K B E l G) Qm) := by
  refine Ex.of ?_
  show Wp _ 93 0 [.ref 0, .int a, .int t] [] _ _
  refine W_iload_n d_93_0 rfl ?_
  refine W_callS d_93_1 o_93 k_6_110 (by omega) (x_128 (by omega)) rfl (Nat.le_of_ble_eq_true rfl) ?_
  refine W_if_eq (tgt := 14) d_93_4 (by decide) (fun h4 => absurd h4 (fun q => bI_f q hb.1)) (fun h4 => ?_)
  refine W_iload_n d_93_7 rfl ?_
  refine W_callS d_93_8 o_93 k_6_138 (by omega) (x_129 (by omega)) rfl (Nat.le_of_ble_eq_true rfl) ?_
  refine W_if_ne (tgt := 17) d_93_11 (by decide) (fun h11 => ?_) (fun h11 => absurd h11 (fun q => bI_f q hb.2))
  refine W_aload_n d_93_17 rfl (by decide) ?_
  refine W_getf d_93_18 o_93 k_6_10 rfl rfl ?_
  show Wp _ _ _ _ (Value.ref (rb 0) :: _) _ _
  rw [show rb 0 = rb r0 from by rw [e0]]
  have hq0 : r0 < 3 := by omega
  refine W_iload_n d_93_21 rfl ?_
  refine W_iload_n d_93_22 rfl ?_
  refine W_callV d_93_23 o_93 (Or.inl k_6_141) (by omega) (x_59 (show r0 < 3 by omega) hp hp6) rfl (mrecv_of (h_road (show r0 < 3 by omega)) o_59.symm) rfl (Nat.le_of_ble_eq_true rfl) ?_
  refine W_iret d_93_26 rt_93 rfl ?_
  exact ⟨rfl, rfl⟩
theorem x_90b {d : Nat} {g : mG} {N : Nat} {A T K : Nat → tR} {B : tR} {E : Nat → Int32} {l : Int64} {G : tR} {Qm : Nat → mC} {r0 r1 : Nat} (e0 : r0 = 0) (e1 : r1 = 1) {km a : Int32} (hb : ¬ ((0 ≤ km ∧ km ≤ 59) ∧ (0 ≤ a ∧ a ≤ 23))) (hd : 2 ≤ d) : Ex d 90 [.ref 0, .int km, .int a] (N, H3 g (cc A T K B E l G) Qm) (some (.int (-2))) (N, H3 g (cc A T K B E l G) Qm) := by
  refine Ex.of ?_
  show Wp _ 90 0 [.ref 0, .int km, .int a] [] _ _
  refine W_iload_n d_90_0 rfl ?_
  refine W_bipush d_90_1 (v := 59) (by decide) ?_
  refine W_callS d_90_3 o_90 k_6_95 (by omega) x_126 rfl (Nat.le_of_ble_eq_true rfl) ?_
  refine W_if_eq (tgt := 16) d_90_6 (by decide) (fun h6 => ?_) (fun h6 => ?_)
  · refine W_bipush d_90_16 (v := (-2)) (by decide) ?_
    refine W_iret d_90_18 rt_90 rfl ?_
    exact ⟨rfl, rfl⟩
  · refine W_iload_n d_90_9 rfl ?_
    refine W_callS d_90_10 o_90 k_6_110 (by omega) (x_128 (by omega)) rfl (Nat.le_of_ble_eq_true rfl) ?_
    refine W_if_ne (tgt := 19) d_90_13 (by decide) (fun h13 => ?_) (fun h13 => ?_)
    · exact absurd ⟨bI_t h6, bI_t h13⟩ hb
    · refine W_bipush d_90_16 (v := (-2)) (by decide) ?_
      refine W_iret d_90_18 rt_90 rfl ?_
      exact ⟨rfl, rfl⟩
theorem x_90f {d : Nat} {g : mG} {N : Nat} {A T K : Nat → tR} {B : tR} {E : Nat → Int32} {l : Int64} {G : tR} {Qm : Nat → mC} {r0 r1 : Nat} (e0 : r0 = 0) (e1 : r1 = 1) {km a : Int32} (hb : (0 ≤ km ∧ km ≤ 59) ∧ (0 ≤ a ∧ a ≤ 23)) (hn : A r0 12 0 = nI 12) (hd : 2 ≤ d) : Ex d 90 [.ref 0, .int km, .int a] (N, H3 g (cc A T K B E l G) Qm) (some (.int (-4))) (N, H3 g (cc A T K B E l G) Qm) := by
  refine Ex.of ?_
  show Wp _ 90 0 [.ref 0, .int km, .int a] [] _ _
  refine W_iload_n d_90_0 rfl ?_
  refine W_bipush d_90_1 (v := 59) (by decide) ?_
  refine W_callS d_90_3 o_90 k_6_95 (by omega) x_126 rfl (Nat.le_of_ble_eq_true rfl) ?_
  refine W_if_eq (tgt := 16) d_90_6 (by decide) (fun h6 => absurd h6 (fun q => bI_f q hb.1)) (fun h6 => ?_)
  refine W_iload_n d_90_9 rfl ?_
  refine W_callS d_90_10 o_90 k_6_110 (by omega) (x_128 (by omega)) rfl (Nat.le_of_ble_eq_true rfl) ?_
  refine W_if_ne (tgt := 19) d_90_13 (by decide) (fun h13 => ?_) (fun h13 => absurd h13 (fun q => bI_f q hb.2))
  refine W_aload_n d_90_19 rfl (by decide) ?_
  refine W_getf d_90_20 o_90 k_6_10 rfl rfl ?_
  show Wp _ _ _ _ (Value.ref (rb 0) :: _) _ _
  rw [show rb 0 = rb r0 from by rw [e0]]
  have hq0 : r0 < 3 := by omega
  refine W_iload_n d_90_23 rfl ?_
  refine W_bipush d_90_24 (v := 10) (by decide) ?_
  refine W_idiv d_90_26 (by decide) ?_
  refine W_iload_n d_90_27 rfl ?_
  refine W_bipush d_90_28 (v := 10) (by decide) ?_
  refine W_irem d_90_30 (by decide) ?_
  refine W_iload_n d_90_31 rfl ?_
  refine W_callV d_90_32 o_90 (Or.inl k_6_113) (by omega) (x_58f (show r0 < 3 by omega) hn (by omega)) rfl (mrecv_of (h_road (show r0 < 3 by omega)) o_58.symm) rfl (Nat.le_of_ble_eq_true rfl) ?_
  refine W_iret d_90_35 rt_90 rfl ?_
  exact ⟨rfl, rfl⟩
theorem x_90 {d : Nat} {g : mG} {N : Nat} {A T K : Nat → tR} {B : tR} {E : Nat → Int32} {l : Int64} {G : tR} {Qm : Nat → mC} {r0 r1 : Nat} (e0 : r0 = 0) (e1 : r1 = 1) {km a : Int32} (hb : (0 ≤ km ∧ km ≤ 59) ∧ (0 ≤ a ∧ a ≤ 23)) {n : Nat} (hn : A r0 12 0 = nI n) (hn12 : n < 12) (hd : 2 ≤ d) : Ex d 90 [.ref 0, .int km, .int a] (N, H3 g (cc A T K B E l G) Qm) (some (.int (nI n))) (N, H3 g (cc (u3 (ow0 A r0 n (km / 10) (i_mod km 10) a) r0 12 0 (nI n + 1)) T K B E l G) Qm) := by
  refine Ex.of ?_
  show Wp _ 90 0 [.ref 0, .int km, .int a] [] _ _
  refine W_iload_n d_90_0 rfl ?_
  refine W_bipush d_90_1 (v := 59) (by decide) ?_
  refine W_callS d_90_3 o_90 k_6_95 (by omega) x_126 rfl (Nat.le_of_ble_eq_true rfl) ?_
  refine W_if_eq (tgt := 16) d_90_6 (by decide) (fun h6 => absurd h6 (fun q => bI_f q hb.1)) (fun h6 => ?_)
  refine W_iload_n d_90_9 rfl ?_
  refine W_callS d_90_10 o_90 k_6_110 (by omega) (x_128 (by omega)) rfl (Nat.le_of_ble_eq_true rfl) ?_
  refine W_if_ne (tgt := 19) d_90_13 (by decide) (fun h13 => ?_) (fun h13 => absurd h13 (fun q => bI_f q hb.2))
  refine W_aload_n d_90_19 rfl (by decide) ?_
  refine W_getf d_90_20 o_90 k_6_10 rfl rfl ?_
  show Wp _ _ _ _ (Value.ref (rb 0) :: _) _ _
  rw [show rb 0 = rb r0 from by rw [e0]]
  have hq0 : r0 < 3 := by omega
  refine W_iload_n d_90_23 rfl ?_
  refine W_bipush d_90_24 (v := 10) (by decide) ?_
  refine W_idiv d_90_26 (by decide) ?_
  refine W_iload_n d_90_27 rfl ?_
  refine W_bipush d_90_28 (v := 10) (by decide) ?_
  refine W_irem d_90_30 (by decide) ?_
  refine W_iload_n d_90_31 rfl ?_
  refine W_callV d_90_32 o_90 (Or.inl k_6_113) (by omega) (x_58 (show r0 < 3 by omega) hn hn12 (by omega)) rfl (mrecv_of (h_road (show r0 < 3 by omega)) o_58.symm) rfl (Nat.le_of_ble_eq_true rfl) ?_
  refine W_iret d_90_35 rt_90 rfl ?_
  exact ⟨rfl, rfl⟩
