/-! THOUGHTS (wip/whole/gen21.py) -/
theorem q0 : 0 < 3 := by decide
theorem q1 : 1 < 3 := by decide
theorem q2 : 2 < 3 := by decide
theorem hrA_ap (A : Nat → tR) (r : Nat) (Lr : tR) (z : Nat → Nat) (n m r' b : Nat) (h : ¬ (b = 2 ∨ b = 5)) : hrA A r Lr z n m r' 12 b = A r' 12 b := by
  show u3 _ _ _ _ _ _ _ _ = _
  rw [u3_ap, if_neg (by omega), blA_ap _ _ _ _ _ (by omega), osA_ap _ _ _ _ _ _ _ (by omega), psA_ap _ _ _ _ _ _ _ (by omega), snA_ap _ _ _ _ _ _ _ (by omega)]
def hrs (A : Nat → tR) (r : Nat) (Lr : tR) (z : Nat → Nat) (n m : Nat) : Nat → Nat → tR
  | 0 => A
  | i + 1 => hrA (hrs A r Lr z n m i) r Lr z n m
theorem hrs_ap (A : Nat → tR) (r : Nat) (Lr : tR) (z : Nat → Nat) (n m r' b : Nat) (h : ¬ (b = 2 ∨ b = 5)) : ∀ i, hrs A r Lr z n m i r' 12 b = A r' 12 b
  | 0 => rfl
  | i + 1 => (hrA_ap _ _ _ _ _ _ _ _ h).trans (hrs_ap A r Lr z n m r' b h i)
theorem bkA_12 (A : Nat → tR) (r r2 n b : Nat) (h : b < 5) : bkA A r r2 n r 12 b = A r2 12 b := by
  unfold bkA
  rw [if_pos ⟨rfl, Or.inr (Or.inr ⟨rfl, h⟩)⟩]
theorem ochg_12 (A : Nat → tR) (r j : Nat) (w v : Int32) (r' b : Nat) : ochg A r j w v r' 12 b = A r' 12 b := by
  unfold ochg
  repeat' split
  all_goals (rw [u3_ap, if_neg (by omega)])
theorem x_122 {d : Nat} {g : mG} {N : Nat} {A T K : Nat → tR} {B : tR} {E : Nat → Int32} {l : Int64} {G : tR} {Qm : Nat → mC} {r0 r1 : Nat} (e0 : r0 = 0) (e1 : r1 = 1) {n : Nat} (hn : A r0 12 0 = nI n) (hn12 : n ≤ 12) (hd : 2 ≤ d) : Ex d 122 [.ref 0] (N, H3 g (cc A T K B E l G) Qm) none (N, H3 g (cc (bkA A r1 r0 n) T K B E l G) Qm) := by
  refine Ex.of ?_
  show Wp _ 122 0 [.ref 0] [] _ _
  refine W_aload_n d_122_0 rfl (by decide) ?_
  refine W_getf d_122_1 o_122 k_6_16 rfl rfl ?_
  show Wp _ _ _ _ (Value.ref (rb 1) :: _) _ _
  rw [show rb 1 = rb r1 from by rw [e1]]
  have hq1 : r1 < 3 := by omega
  refine W_aload_n d_122_4 rfl (by decide) ?_
  refine W_getf d_122_5 o_122 k_6_10 rfl rfl ?_
  show Wp _ _ _ _ (Value.ref (rb 0) :: _) _ _
  rw [show rb 0 = rb r0 from by rw [e0]]
  have hq0 : r0 < 3 := by omega
  refine W_callV d_122_8 o_122 (Or.inl k_6_253) (by omega) (x_61 (by omega) (by omega) (by omega) hn hn12 (by omega)) rfl (mrecv_of (h_road (show r1 < 3 by omega)) o_61.symm) rfl (Nat.le_of_ble_eq_true rfl) ?_
  refine W_ret d_122_11 rt_122 ?_
  exact ⟨rfl, rfl⟩
theorem lp_123 {d : Nat} {g : mG} {N : Nat} {A T K : Nat → tR} {B : tR} {E : Nat → Int32} {l : Int64} {G : tR} {Qm : Nat → mC} {r0 r1 : Nat} (e0 : r0 = 0) (e1 : r1 = 1) {t : Nat} (ht : t < 6) {z : Nat → Nat} (hL : Lw (T t) z) {n p : Nat} (hn : A r1 12 0 = nI n) (hn12 : n ≤ 12) (hp : A r1 12 1 = nI p) (hp6 : p ≤ 6) {m : Nat} (hm : m < 2 ^ 31) (hd : 4 ≤ d) {Q : Option Value → mM → Prop} (kk : ∀ G', Q none (N, H3 g (cc (hrs A r1 (T t) z n p m) T K B E l G') Qm)) : ∀ (k i : Nat) (G : tR), i + k = m → Wp d 123 15 [.ref 0, .int (nI m), .ref (lb t), .int (nI i)] [] (N, H3 g (cc (hrs A r1 (T t) z n p i) T K B E l G) Qm) Q := by
  intro k
  induction k with
  | zero =>
    intro i G hi
    obtain rfl : i = m := by omega
    refine W_iload_n d_123_15 rfl ?_
    refine W_iload_n d_123_16 rfl ?_
    refine W_icmp_ge (tgt := 34) d_123_17 (by decide) (fun h17 => ?_) (fun h17 => absurd (nI_le (a := i) (b := i) (by omega) (by omega)) h17)
    refine W_ret d_123_34 rt_123 ?_
    exact kk _
  | succ k ih =>
    intro i G hi
    refine W_iload_n d_123_15 rfl ?_
    refine W_iload_n d_123_16 rfl ?_
    refine W_icmp_ge (tgt := 34) d_123_17 (by decide) (fun h17 => absurd h17 (nI_ge (a := i) (b := m) (by omega) (by omega))) (fun h17 => ?_)
    refine W_aload_n d_123_20 rfl (by decide) ?_
    refine W_getf d_123_21 o_123 k_6_16 rfl rfl ?_
    show Wp _ _ _ _ (Value.ref (rb 1) :: _) _ _
    rw [show rb 1 = rb r1 from by rw [e1]]
    have hq1 : r1 < 3 := by omega
    refine W_aload_n d_123_24 rfl (lb_ne (by assumption)) ?_
    refine W_callVG d_123_25 o_123 (Or.inl k_6_160) (by omega) (x_64 (show r1 < 3 by omega) ht hL (n := n) (by rw [hrs_ap _ _ _ _ _ _ _ _ (by omega), hn]) hn12 (m := p) (by rw [hrs_ap _ _ _ _ _ _ _ _ (by omega), hp]) hp6 (by omega)) rfl (mrecv_of (h_road (show r1 < 3 by omega)) o_64.symm) rfl (Nat.le_of_ble_eq_true rfl) (fun G' => ?_)
    refine W_iinc (v := 1) d_123_28 rfl (by decide) rfl ?_
    refine W_goto (tgt := 15) d_123_31 (by decide) ?_
    have h9 := fun G => ih (i + 1) G (by omega)
    rw [nI_succ] at h9
    exact h9 _
theorem x_123 {d : Nat} {g : mG} {N : Nat} {A T K : Nat → tR} {B : tR} {E : Nat → Int32} {l : Int64} {G : tR} {Qm : Nat → mC} {r0 r1 : Nat} (e0 : r0 = 0) (e1 : r1 = 1) {t : Nat} (ht : t < 6) {z : Nat → Nat} (hL : Lw (T t) z) {n p : Nat} (hn : A r1 12 0 = nI n) (hn12 : n ≤ 12) (hp : A r1 12 1 = nI p) (hp6 : p ≤ 6) (hlw : A r1 12 4 = nI t) {m : Nat} (hm : m < 2 ^ 31) (hd : 4 ≤ d) : ∃ G', Ex d 123 [.ref 0, .int (nI m)] (N, H3 g (cc A T K B E l G) Qm) none (N, H3 g (cc (hrs A r1 (T t) z n p m) T K B E l G') Qm) := by
  refine ExG (f := fun G' => (N, H3 g (cc (hrs A r1 (T t) z n p m) T K B E l G') Qm)) ?_
  show Wp _ 123 0 [.ref 0, .int (nI m), .null, .null] [] _ _
  refine W_aload_n d_123_0 rfl (by decide) ?_
  refine W_getf d_123_1 o_123 k_6_31 rfl rfl ?_
  refine W_aload_n d_123_4 rfl (by decide) ?_
  refine W_getf d_123_5 o_123 k_6_16 rfl rfl ?_
  show Wp _ _ _ _ (Value.ref (rb 1) :: _) _ _
  rw [show rb 1 = rb r1 from by rw [e1]]
  have hq1 : r1 < 3 := by omega
  refine W_getf d_123_8 o_123 k_6_89 (h_road (by assumption)) rfl ?_
  rw [hlw]
  refine W_aald d_123_11 rfl (vp_in_nI (by omega) (by decide)) (txa_v (by omega)) ?_
  refine W_astore_n d_123_12 (lb_ne (by assumption)) rfl ?_
  refine W_iconst d_123_13 (v := 0) (by decide) ?_
  refine W_istore_n d_123_14 rfl ?_
  refine lp_123 (G := G) e0 e1 ht hL hn hn12 hp hp6 hm hd (fun G2 => ?_) m 0 _ (by omega)
  exact ⟨rfl, _, rfl⟩
theorem x_124 {d : Nat} {g : mG} {N : Nat} {A T K : Nat → tR} {B : tR} {E : Nat → Int32} {l : Int64} {G : tR} {Qm : Nat → mC} {r0 r1 : Nat} (e0 : r0 = 0) (e1 : r1 = 1) {t : Nat} (ht : t < 6) {z : Nat → Nat} (hL : Lw (T t) z) {n p : Nat} (hn : A r0 12 0 = nI n) (hn12 : n ≤ 12) (hp : A r0 12 1 = nI p) (hp6 : p ≤ 6) (hlw : A r0 12 4 = nI t) {m : Nat} (hm : m < 2 ^ 31) {j : Nat} (hj : j < 12) {what v : Int32} (hd : 5 ≤ d) : ∃ G', Ex d 124 [.ref 0, .int (nI j), .int what, .int v, .int (nI m)] (N, H3 g (cc A T K B E l G) Qm) none (N, H3 g (cc (hrs (ochg (bkA A r1 r0 n) r1 j what v) r1 (T t) z n p m) T K B E l G') Qm) := by
  refine ExG (f := fun G' => (N, H3 g (cc (hrs (ochg (bkA A r1 r0 n) r1 j what v) r1 (T t) z n p m) T K B E l G') Qm)) ?_
  show Wp _ 124 0 [.ref 0, .int (nI j), .int what, .int v, .int (nI m)] [] _ _
  refine W_aload_n d_124_0 rfl (by decide) ?_
  refine W_callV d_124_1 o_124 (Or.inl k_6_176) (by omega) (x_122 e0 e1 hn hn12 (by omega)) rfl (mrecv_of rfl o_122.symm) rfl (Nat.le_of_ble_eq_true rfl) ?_
  refine W_aload_n d_124_4 rfl (by decide) ?_
  refine W_getf d_124_5 o_124 k_6_16 rfl rfl ?_
  show Wp _ _ _ _ (Value.ref (rb 1) :: _) _ _
  rw [show rb 1 = rb r1 from by rw [e1]]
  have hq1 : r1 < 3 := by omega
  refine W_getf d_124_8 o_124 k_6_121 (h_road (by assumption)) rfl ?_
  refine W_iload_n d_124_11 rfl ?_
  refine W_aald d_124_12 (h_owners (by assumption)) (vp_in_nI (by omega) (by decide)) (owa_v (by omega)) ?_
  refine W_iload_n d_124_13 rfl ?_
  refine W_iload_n d_124_14 rfl ?_
  refine W_callV d_124_15 o_124 (Or.inl k_6_131) (by omega) (x_29 (show r1 < 3 by omega) hj) rfl (mrecv_of (h_owner (by assumption) (by assumption)) o_29.symm) rfl (Nat.le_of_ble_eq_true rfl) ?_
  refine W_aload_n d_124_18 rfl (by decide) ?_
  refine W_iload d_124_19 rfl ?_
  refine W_callVG d_124_21 o_124 (Or.inl k_6_179) (by omega) (x_123 e0 e1 ht hL ((ochg_12 _ _ _ _ _ _ _).trans ((bkA_12 _ _ _ _ 0 (by decide)).trans hn)) hn12 ((ochg_12 _ _ _ _ _ _ _).trans ((bkA_12 _ _ _ _ 1 (by decide)).trans hp)) hp6 ((ochg_12 _ _ _ _ _ _ _).trans ((bkA_12 _ _ _ _ 4 (by decide)).trans hlw)) hm (by omega)) rfl (mrecv_of rfl o_123.symm) rfl (Nat.le_of_ble_eq_true rfl) (fun G' => ?_)
  refine W_ret d_124_24 rt_124 ?_
  exact ⟨rfl, _, rfl⟩
theorem sbA_ap (A : Nat → tR) (r : Nat) (l : Int64) (m : Int32) (r' b : Nat) : ∀ i, sbA A r l m i r' 12 b = A r' 12 b
  | 0 => rfl
  | i + 1 => by rw [sbA, u3_ap, if_neg (by omega), sbA_ap A r l m r' b i]
def wns (A : Nat → tR) (r : Nat) (l : Int64) (Lr : tR) (z : Nat → Nat) (n p : Nat) (most : Int32) : Nat → (Nat → tR) × Int64
  | 0 => (A, l)
  | i + 1 => (hrA (sbA (wns A r l Lr z n p most i).1 r (wns A r l Lr z n p most i).2 most 6) r Lr z n p, lni (wns A r l Lr z n p most i).2 6)
theorem wns_ap (A : Nat → tR) (r : Nat) (l : Int64) (Lr : tR) (z : Nat → Nat) (n p : Nat) (most : Int32) (r' b : Nat) (h : ¬ (b = 2 ∨ b = 5)) : ∀ i, (wns A r l Lr z n p most i).1 r' 12 b = A r' 12 b
  | 0 => rfl
  | i + 1 => (hrA_ap _ _ _ _ _ _ _ _ h).trans ((sbA_ap _ _ _ _ _ _ _).trans (wns_ap A r l Lr z n p most r' b h i))
theorem lp_125 {d : Nat} {g : mG} {N : Nat} {A T K : Nat → tR} {B : tR} {E : Nat → Int32} {l : Int64} {G : tR} {Qm : Nat → mC} {r0 r1 : Nat} (e0 : r0 = 0) (e1 : r1 = 1) {t : Nat} (ht : t < 6) {z : Nat → Nat} (hL : Lw (T t) z) {n p : Nat} (hn : A r1 12 0 = nI n) (hn12 : n ≤ 12) (hp : A r1 12 1 = nI p) (hp6 : p ≤ 6) {sd most : Int32} (hmo : ¬ (most + 1).toInt64 = 0) {m : Nat} (hm : m < 2 ^ 31) (hd : 4 ≤ d) {Q : Option Value → mM → Prop} (kk : ∀ G', Q none (N, H3 g (cc (wns A r1 l (T t) z n p most m).1 T K B E (wns A r1 l (T t) z n p most m).2 G') Qm)) : ∀ (k i : Nat) (G : tR), i + k = m → Wp d 125 29 [.ref 0, .int sd, .int (nI m), .int most, .ref (lb t), .int (nI i)] [] (N, H3 g (cc (wns A r1 l (T t) z n p most i).1 T K B E (wns A r1 l (T t) z n p most i).2 G) Qm) Q := by
  intro k
  induction k with
  | zero =>
    intro i G hi
    obtain rfl : i = m := by omega
    refine W_iload d_125_29 rfl ?_
    refine W_iload_n d_125_31 rfl ?_
    refine W_icmp_ge (tgt := 62) d_125_32 (by decide) (fun h32 => ?_) (fun h32 => absurd (nI_le (a := i) (b := i) (by omega) (by omega)) h32)
    refine W_ret d_125_62 rt_125 ?_
    exact kk _
  | succ k ih =>
    intro i G hi
    refine W_iload d_125_29 rfl ?_
    refine W_iload_n d_125_31 rfl ?_
    refine W_icmp_ge (tgt := 62) d_125_32 (by decide) (fun h32 => absurd h32 (nI_ge (a := i) (b := m) (by omega) (by omega))) (fun h32 => ?_)
    refine W_aload_n d_125_35 rfl (by decide) ?_
    refine W_getf d_125_36 o_125 k_6_16 rfl rfl ?_
    show Wp _ _ _ _ (Value.ref (rb 1) :: _) _ _
    rw [show rb 1 = rb r1 from by rw [e1]]
    have hq1 : r1 < 3 := by omega
    refine W_aload_n d_125_39 rfl (by decide) ?_
    refine W_getf d_125_40 o_125 k_6_44 rfl rfl ?_
    refine W_iload_n d_125_43 rfl ?_
    refine W_callV d_125_44 o_125 (Or.inl k_6_295) (by omega) (x_63 (show r1 < 3 by omega) hmo (by omega)) rfl (mrecv_of (h_road (show r1 < 3 by omega)) o_63.symm) rfl (Nat.le_of_ble_eq_true rfl) ?_
    refine W_aload_n d_125_47 rfl (by decide) ?_
    refine W_getf d_125_48 o_125 k_6_16 rfl rfl ?_
    show Wp _ _ _ _ (Value.ref (rb 1) :: _) _ _
    rw [show rb 1 = rb r1 from by rw [e1]]
    have hq1 : r1 < 3 := by omega
    refine W_aload d_125_51 rfl (lb_ne (by assumption)) ?_
    refine W_callVG d_125_53 o_125 (Or.inl k_6_160) (by omega) (x_64 (show r1 < 3 by omega) ht hL (n := n) (by rw [sbA_ap _ _ _ _ _ _ _, wns_ap _ _ _ _ _ _ _ _ _ _ (by omega), hn]) hn12 (m := p) (by rw [sbA_ap _ _ _ _ _ _ _, wns_ap _ _ _ _ _ _ _ _ _ _ (by omega), hp]) hp6 (by omega)) rfl (mrecv_of (h_road (show r1 < 3 by omega)) o_64.symm) rfl (Nat.le_of_ble_eq_true rfl) (fun G' => ?_)
    refine W_iinc (v := 1) d_125_56 rfl (by decide) rfl ?_
    refine W_goto (tgt := 29) d_125_59 (by decide) ?_
    have h9 := fun G => ih (i + 1) G (by omega)
    rw [nI_succ] at h9
    exact h9 _
theorem x_125 {d : Nat} {g : mG} {N : Nat} {A T K : Nat → tR} {B : tR} {E : Nat → Int32} {l : Int64} {G : tR} {Qm : Nat → mC} {r0 r1 : Nat} (e0 : r0 = 0) (e1 : r1 = 1) {t : Nat} (ht : t < 6) {z : Nat → Nat} (hL : Lw (T t) z) {n p : Nat} (hn : A r0 12 0 = nI n) (hn12 : n ≤ 12) (hp : A r0 12 1 = nI p) (hp6 : p ≤ 6) (hlw : A r0 12 4 = nI t) {m : Nat} (hm : m < 2 ^ 31) {sd most : Int32} (hmo : ¬ (most + 1).toInt64 = 0) (hd : 4 ≤ d) : ∃ G', Ex d 125 [.ref 0, .int sd, .int (nI m), .int most] (N, H3 g (cc A T K B E l G) Qm) none (N, H3 g (cc (wns (bkA A r1 r0 n) r1 (sd.toInt64 + 1) (T t) z n p most m).1 T K B E (wns (bkA A r1 r0 n) r1 (sd.toInt64 + 1) (T t) z n p most m).2 G') Qm) := by
  refine ExG (f := fun G' => (N, H3 g (cc (wns (bkA A r1 r0 n) r1 (sd.toInt64 + 1) (T t) z n p most m).1 T K B E (wns (bkA A r1 r0 n) r1 (sd.toInt64 + 1) (T t) z n p most m).2 G') Qm)) ?_
  show Wp _ 125 0 [.ref 0, .int sd, .int (nI m), .int most, .null, .null] [] _ _
  refine W_aload_n d_125_0 rfl (by decide) ?_
  refine W_callV d_125_1 o_125 (Or.inl k_6_176) (by omega) (x_122 e0 e1 hn hn12 (by omega)) rfl (mrecv_of rfl o_122.symm) rfl (Nat.le_of_ble_eq_true rfl) ?_
  refine W_aload_n d_125_4 rfl (by decide) ?_
  refine W_getf d_125_5 o_125 k_6_44 rfl rfl ?_
  refine W_iload_n d_125_8 rfl ?_
  refine W_callV d_125_9 o_125 (Or.inl k_6_293) (by omega) x_23 rfl (mrecv_of rfl o_23.symm) rfl (Nat.le_of_ble_eq_true rfl) ?_
  refine W_aload_n d_125_12 rfl (by decide) ?_
  refine W_getf d_125_13 o_125 k_6_31 rfl rfl ?_
  refine W_aload_n d_125_16 rfl (by decide) ?_
  refine W_getf d_125_17 o_125 k_6_16 rfl rfl ?_
  show Wp _ _ _ _ (Value.ref (rb 1) :: _) _ _
  rw [show rb 1 = rb r1 from by rw [e1]]
  have hq1 : r1 < 3 := by omega
  refine W_getf d_125_20 o_125 k_6_89 (h_road (by assumption)) rfl ?_
  rw [show bkA A r1 r0 n r1 12 4 = nI t from (bkA_12 _ _ _ _ 4 (by decide)).trans hlw]
  refine W_aald d_125_23 rfl (vp_in_nI (by omega) (by decide)) (txa_v (by omega)) ?_
  refine W_astore d_125_24 (lb_ne (by assumption)) rfl ?_
  refine W_iconst d_125_26 (v := 0) (by decide) ?_
  refine W_istore d_125_27 rfl ?_
  refine lp_125 (A := bkA A r1 r0 n) (l := sd.toInt64 + 1) (G := G) e0 e1 ht hL ((bkA_12 _ _ _ _ 0 (by decide)).trans hn) hn12 ((bkA_12 _ _ _ _ 1 (by decide)).trans hp) hp6 hmo hm hd (fun G2 => ?_) m 0 _ (by omega)
  exact ⟨rfl, _, rfl⟩
