/-! TOLD WALLS: judge, kinds, hours, laws (wip/whole/gen35.py) -/
theorem owners_hd {n : Nat} {v : Int32} (h : v = nI n) : True := trivial
def rfv (K : Nat → tR) (n : Nat) (v : Int32) : Int32 := if 0 ≤ v ∧ v ≤ 3 then (if K v.toNatClampNeg 1 0 = -1 then -11 else if K v.toNatClampNeg 1 1 = nI n then 0 else -2) else -2
theorem sheet_ix {v : Int32} (h : 0 ≤ v ∧ v ≤ 3) : ∃ s, s < 4 ∧ v = nI s := by
  obtain ⟨c, hc, rfl⟩ := nI_of2 (x := v) (M := 3) (n := 3) rfl (Int32.not_lt.mpr h.1) h.2
  exact ⟨c, by omega, rfl⟩
theorem rfv_in {K : Nat → tR} {n s : Nat} (hs : s < 4) : rfv K n (nI s) = if K s 1 0 = -1 then -11 else if K s 1 1 = nI n then 0 else -2 := by
  unfold rfv
  rw [if_pos ⟨nI_pos' (by omega), nI_le (a := s) (b := 3) (by omega) (by decide)⟩, nI_clamp (by omega)]
theorem rfv_ok {K : Nat → tR} {n : Nat} {v : Int32} (h : rfv K n v = 0) : ∃ s, s < 4 ∧ v = nI s ∧ ¬ K s 1 0 = -1 ∧ K s 1 1 = nI n := by
  by_cases h1 : 0 ≤ v ∧ v ≤ 3
  · obtain ⟨s, hs, rfl⟩ := sheet_ix h1
    rw [rfv_in hs] at h
    by_cases h2 : K s 1 0 = -1
    · rw [if_pos h2] at h; exact absurd h (by decide)
    · rw [if_neg h2] at h
      by_cases h3 : K s 1 1 = nI n
      · exact ⟨s, hs, rfl, h2, h3⟩
      · rw [if_neg h3] at h; exact absurd h (by decide)
  · unfold rfv at h
    rw [if_neg h1] at h; exact absurd h (by decide)
def btf (f : Nat → Int32) : Nat → Int32
  | 0 => 0
  | i + 1 => if f i = -1 then btf f i ||| ((1 : Int32) <<< (nI i &&& 31)) else btf f i
def hrf (f : Nat → Int32) : Nat → Int32 × Int32
  | 0 => (0, -1)
  | i + 1 => if f i = -1 then ((hrf f i).1 + 1, if (hrf f i).2 = -1 then nI i else (hrf f i).2) else hrf f i
def lwr (R : tR) (t : Nat) : tR := u3 (fun _ => R) 0 12 4 (nI t) 0
theorem lwr_eq {A : Nat → tR} {r1 n t : Nat} {R : tR} (h : EQ n (A r1) (zt R)) : EQ n (u3 A r1 12 4 (nI t) r1) (zt (lwr R t)) := by
  intro a b u
  have q := h a b u
  unfold lwr
  unfold zt at q ⊢
  rw [u3_ap, u3_ap]
  by_cases e : a = 12 ∧ b = 4
  · rw [if_pos ⟨rfl, e⟩, if_neg (by omega), if_pos ⟨rfl, e⟩]
  · rw [if_neg (fun t => e t.2), if_neg (fun t : 0 = 0 ∧ a = 12 ∧ b = 4 => e t.2)]
    exact q
theorem p_111 {d : Nat} {g : mG} {N : Nat} {A T K : Nat → tR} {B : tR} {E : Nat → Int32} {l : Int64} {G : tR} {Qm : Nat → mC} {r0 r1 : Nat} (e0 : r0 = 0) (e1 : r1 = 1) {v : Int32} {n : Nat} (hn : A r0 12 0 = nI n) (hd : 3 ≤ d) : Ex d 111 [.ref 0, .int v] (N, H3 g (cc A T K B E l G) Qm) (some (.int (rfv K n v))) (N, H3 g (cc A T K B E l G) Qm) := by
  by_cases hb : 0 ≤ v ∧ v ≤ 3
  · obtain ⟨s, hs, rfl⟩ := sheet_ix hb
    rw [rfv_in hs]
    refine Ex.of ?_
    show Wp _ 111 0 [.ref 0, .int (nI s)] [] _ _
    refine W_iload_n d_111_0 rfl ?_
    refine W_callS d_111_1 o_111 k_6_229 (by omega) (x_133 (by omega)) rfl (Nat.le_of_ble_eq_true rfl) ?_
    refine W_if_ne (tgt := 10) d_111_4 (by decide) (fun h4 => ?_) (fun h4 => absurd h4 (fun q => bI_f q ⟨nI_pos' (by omega), nI_le (a := s) (b := 3) (by omega) (by decide)⟩))
    refine W_aload_n d_111_10 rfl (by decide) ?_
    refine W_getf d_111_11 o_111 k_6_37 rfl rfl ?_
    refine W_iload_n d_111_14 rfl ?_
    refine W_aald d_111_15 rfl (vp_in_nI (by omega) (by decide)) (sha_v (by omega)) ?_
    refine W_callV d_111_16 o_111 (Or.inl k_6_238) (by omega) (x_78 hs) rfl (mrecv_of (h_sheet (by assumption)) o_78.symm) rfl (Nat.le_of_ble_eq_true rfl) ?_
    refine W_if_eq (tgt := 25) d_111_19 (by decide) (fun h19 => ?_) (fun h19 => ?_)
    · refine W_aload_n d_111_25 rfl (by decide) ?_
      refine W_getf d_111_26 o_111 k_6_37 rfl rfl ?_
      refine W_iload_n d_111_29 rfl ?_
      refine W_aald d_111_30 rfl (vp_in_nI (by omega) (by decide)) (sha_v (by omega)) ?_
      refine W_getf d_111_31 o_111 k_6_242 (h_sheet (by assumption)) rfl ?_
      refine W_aload_n d_111_34 rfl (by decide) ?_
      refine W_getf d_111_35 o_111 k_6_10 rfl rfl ?_
      show Wp _ _ _ _ (Value.ref (rb 0) :: _) _ _
      rw [show rb 0 = rb r0 from by rw [e0]]
      have hq0 : r0 < 3 := by omega
      refine W_getf d_111_38 o_111 k_6_77 (h_road (by assumption)) rfl ?_
      rw [hn]
      refine W_icmp_ne (tgt := 48) d_111_41 (by decide) (fun h41 => ?_) (fun h41 => ?_)
      · refine W_bipush d_111_48 (v := (-2)) (by decide) ?_
        refine W_iret d_111_50 rt_111 rfl ?_
        exact ⟨congrArg (fun z => some (Value.int z)) ((if_neg (bI_f h19)).trans (if_neg h41)).symm, rfl⟩
      · refine W_iconst d_111_44 (v := 0) (by decide) ?_
        refine W_goto (tgt := 50) d_111_45 (by decide) ?_
        refine W_iret d_111_50 rt_111 rfl ?_
        exact ⟨congrArg (fun z => some (Value.int z)) ((if_neg (bI_f h19)).trans (if_pos h41)).symm, rfl⟩
    · refine W_bipush d_111_22 (v := (-11)) (by decide) ?_
      refine W_iret d_111_24 rt_111 rfl ?_
      exact ⟨congrArg (fun z => some (Value.int z)) (if_pos (bI_t h19)).symm, rfl⟩
  · rw [show rfv K n v = -2 from if_neg hb]
    refine Ex.of ?_
    show Wp _ 111 0 [.ref 0, .int v] [] _ _
    refine W_iload_n d_111_0 rfl ?_
    refine W_callS d_111_1 o_111 k_6_229 (by omega) (x_133 (by omega)) rfl (Nat.le_of_ble_eq_true rfl) ?_
    refine W_if_ne (tgt := 10) d_111_4 (by decide) (fun h4 => absurd (bI_ne.mpr hb) h4) (fun h4 => ?_)
    refine W_bipush d_111_7 (v := (-2)) (by decide) ?_
    refine W_iret d_111_9 rt_111 rfl ?_
    exact ⟨rfl, rfl⟩
theorem p_106 {d : Nat} {g : mG} {N : Nat} {A T K : Nat → tR} {B : tR} {E : Nat → Int32} {l : Int64} {G : tR} {Qm : Nat → mC} {r0 r1 : Nat} (e0 : r0 = 0) (e1 : r1 = 1) {z : Nat → Nat} {n p t : Nat} (hX : CX (A r0) T z n p t) {m : Nat} (hm : m ≤ 48) {s : Nat} (hs : s < 4) (hr : rfv K n (nI s) = 0) (hd : 9 ≤ d) : Wp d 106 0 (ment 106 [.ref 0, .int (nI s), .int (nI m)]) [] (N, H3 g (cc A T K B E l G) Qm) (fun v M' => v = some (.int (fo (K s 0) (gon (A r0) (T t) z n p m 2) n 0)) ∧ ∃ A' l' G', M' = (N, H3 g (cc A' T K B E l' G') Qm) ∧ ∀ r, ¬ r = r1 → A' r = A r) := by
  obtain ⟨hn, hn12, hp, hp6, hlw, ht, hL⟩ := hX
  show Wp _ 106 0 [.ref 0, .int (nI s), .int (nI m), .null] [] _ _
  refine W_aload_n d_106_0 rfl (by decide) ?_
  refine W_iload_n d_106_1 rfl ?_
  refine W_callV d_106_2 o_106 (Or.inl k_6_222) (by omega) (p_111 e0 e1 hn (by omega)) rfl (mrecv_of rfl o_111.symm) rfl (Nat.le_of_ble_eq_true rfl) ?_
  refine W_istore_n d_106_5 rfl ?_
  refine W_iload_n d_106_6 rfl ?_
  refine W_if_eq (tgt := 12) d_106_7 (by decide) (fun h7 => ?_) (fun h7 => absurd hr h7)
  refine W_iload_n d_106_12 rfl ?_
  refine W_callS d_106_13 o_106 k_6_167 (by omega) (x_130 (by omega)) rfl (Nat.le_of_ble_eq_true rfl) ?_
  refine W_if_ne (tgt := 22) d_106_16 (by decide) (fun h16 => ?_) (fun h16 => absurd h16 (fun q => bI_f q ⟨nI_pos' (by omega), nI_le (a := m) (b := 48) hm (by decide)⟩))
  refine W_aload_n d_106_22 rfl (by decide) ?_
  refine W_callV d_106_23 o_106 (Or.inl k_6_176) (by omega) (x_122 e0 e1 hn hn12 (by omega)) rfl (mrecv_of rfl o_122.symm) rfl (Nat.le_of_ble_eq_true rfl) ?_
  refine W_aload_n d_106_26 rfl (by decide) ?_
  refine W_iload_n d_106_27 rfl ?_
  refine W_callVG d_106_28 o_106 (Or.inl k_6_179) (by omega) (x_123 e0 e1 ht hL ((bkA_12 _ _ _ _ 0 (by decide)).trans hn) hn12 ((bkA_12 _ _ _ _ 1 (by decide)).trans hp) hp6 ((bkA_12 _ _ _ _ 4 (by decide)).trans hlw) (by omega) (by omega)) rfl (mrecv_of rfl o_123.symm) rfl (Nat.le_of_ble_eq_true rfl) (fun G' => ?_)
  have hq := th_eq (Lr := T t) (z := z) (A := A) (r0 := r0) (r1 := r1) (p := p) (by omega) hn12 hp6 hn m
  have hne : ∀ r, ¬ r = r1 → hrs (bkA A r1 r0 n) r1 (T t) z n p m r = A r := fun r hr => th_ne hr
  have hn1 : hrs (bkA A r1 r0 n) r1 (T t) z n p m r1 12 0 = nI n := (hrs_ap _ _ _ _ _ _ _ _ (by decide) _).trans ((bkA_12 _ _ _ _ 0 (by decide)).trans hn)
  generalize hrs (bkA A r1 r0 n) r1 (T t) z n p m = A2 at hq hne hn1 ⊢
  refine W_aload_n d_106_31 rfl (by decide) ?_
  refine W_getf d_106_32 o_106 k_6_16 rfl rfl ?_
  show Wp _ _ _ _ (Value.ref (rb 1) :: _) _ _
  rw [show rb 1 = rb r1 from by rw [e1]]
  have hq1 : r1 < 3 := by omega
  refine W_aload_n d_106_35 rfl (by decide) ?_
  refine W_getf d_106_36 o_106 k_6_37 rfl rfl ?_
  refine W_iload_n d_106_39 rfl ?_
  refine W_aald d_106_40 rfl (vp_in_nI (by omega) (by decide)) (sha_v (by omega)) ?_
  refine W_callV d_106_41 o_106 (Or.inl k_6_225) (by omega) (x_76 (show r1 < 3 by omega) hs hn1 hn12) rfl (mrecv_of (h_road (by assumption)) o_76.symm) rfl (Nat.le_of_ble_eq_true rfl) ?_
  refine W_iret d_106_44 rt_106 rfl ?_
  exact ⟨congrArg (fun z => some (Value.int z)) (hq.fo _), A2, _, _, rfl, hne⟩
theorem p_106a {d : Nat} {g : mG} {N : Nat} {A T K : Nat → tR} {B : tR} {E : Nat → Int32} {l : Int64} {G : tR} {Qm : Nat → mC} {r0 r1 : Nat} (e0 : r0 = 0) (e1 : r1 = 1) {z : Nat → Nat} {n p t : Nat} (hX : CX (A r0) T z n p t) {v w : Int32} (hb : ¬ rfv K n v = 0) (hd : 4 ≤ d) : Ex d 106 [.ref 0, .int v, .int w] (N, H3 g (cc A T K B E l G) Qm) (some (.int (rfv K n v))) (N, H3 g (cc A T K B E l G) Qm) := by
  refine Ex.of ?_
  show Wp _ 106 0 [.ref 0, .int v, .int w, .null] [] _ _
  refine W_aload_n d_106_0 rfl (by decide) ?_
  refine W_iload_n d_106_1 rfl ?_
  refine W_callV d_106_2 o_106 (Or.inl k_6_222) (by omega) (p_111 e0 e1 hX.1 (by omega)) rfl (mrecv_of rfl o_111.symm) rfl (Nat.le_of_ble_eq_true rfl) ?_
  refine W_istore_n d_106_5 rfl ?_
  refine W_iload_n d_106_6 rfl ?_
  refine W_if_eq (tgt := 12) d_106_7 (by decide) (fun h7 => absurd h7 hb) (fun h7 => ?_)
  refine W_iload_n d_106_10 rfl ?_
  refine W_iret d_106_11 rt_106 rfl ?_
  exact ⟨rfl, rfl⟩
theorem p_106b {d : Nat} {g : mG} {N : Nat} {A T K : Nat → tR} {B : tR} {E : Nat → Int32} {l : Int64} {G : tR} {Qm : Nat → mC} {r0 r1 : Nat} (e0 : r0 = 0) (e1 : r1 = 1) {z : Nat → Nat} {n p t : Nat} (hX : CX (A r0) T z n p t) {v w : Int32} (hr : rfv K n v = 0) (hb : ¬ (0 ≤ w ∧ w ≤ 48)) (hd : 4 ≤ d) : Ex d 106 [.ref 0, .int v, .int w] (N, H3 g (cc A T K B E l G) Qm) (some (.int (-7))) (N, H3 g (cc A T K B E l G) Qm) := by
  refine Ex.of ?_
  show Wp _ 106 0 [.ref 0, .int v, .int w, .null] [] _ _
  refine W_aload_n d_106_0 rfl (by decide) ?_
  refine W_iload_n d_106_1 rfl ?_
  refine W_callV d_106_2 o_106 (Or.inl k_6_222) (by omega) (p_111 e0 e1 hX.1 (by omega)) rfl (mrecv_of rfl o_111.symm) rfl (Nat.le_of_ble_eq_true rfl) ?_
  refine W_istore_n d_106_5 rfl ?_
  refine W_iload_n d_106_6 rfl ?_
  refine W_if_eq (tgt := 12) d_106_7 (by decide) (fun h7 => ?_) (fun h7 => absurd hr h7)
  refine W_iload_n d_106_12 rfl ?_
  refine W_callS d_106_13 o_106 k_6_167 (by omega) (x_130 (by omega)) rfl (Nat.le_of_ble_eq_true rfl) ?_
  refine W_if_ne (tgt := 22) d_106_16 (by decide) (fun h16 => absurd (bI_ne.mpr hb) h16) (fun h16 => ?_)
  refine W_bipush d_106_19 (v := (-7)) (by decide) ?_
  refine W_iret d_106_21 rt_106 rfl ?_
  exact ⟨rfl, rfl⟩
theorem lp_107 {d : Nat} {g : mG} {N : Nat} {A0 T K : Nat → tR} {B : tR} {E : Nat → Int32} {Qm : Nat → mC} {r0 r1 : Nat} (e0 : r0 = 0) (e1 : r1 = 1) {z : Nat → Nat} {n p t : Nat} (hX : CX (A0 r0) T z n p t) {m : Nat} (hm : m ≤ 48) {j s : Nat} (hj : j < n) (hs : s < 4) {so rv wv : Int32} {ch : Nat} (hch : ch ≤ 24) (hd : 9 ≤ d) {Q : Option Value → mM → Prop} (kk : ∀ (A : Nat → tR) (l : Int64) (G : tR), (∀ r, ¬ r = r1 → A r = A0 r) → Wp d 107 153 [.ref 0, .int (nI s), .int (nI m), .int (nI j), .int so, .int rv, .int wv, .int (nI ch), .int (btf (fun v => fo (K s 0) (gon (chg (A0 r0) j wv (nI v)) (T t) z n p m 2) n 0) ch), .int (nI ch)] [] (N, H3 g (cc A T K B E l G) Qm) Q) : ∀ (k i : Nat) (A : Nat → tR) (l : Int64) (G : tR), i + k = ch → (∀ r, ¬ r = r1 → A r = A0 r) → Wp d 107 104 [.ref 0, .int (nI s), .int (nI m), .int (nI j), .int so, .int rv, .int wv, .int (nI ch), .int (btf (fun v => fo (K s 0) (gon (chg (A0 r0) j wv (nI v)) (T t) z n p m 2) n 0) i), .int (nI i)] [] (N, H3 g (cc A T K B E l G) Qm) Q := by
  intro k
  induction k with
  | zero =>
    intro i A l G  hi hA
    have ei : i = ch := by omega
    refine W_iload d_107_104 rfl ?_
    refine W_iload d_107_106 rfl ?_
    refine W_icmp_ge (tgt := 153) d_107_108 (by decide) (fun h108 => ?_) (fun h108 => absurd (nI_le (a := ch) (b := i) (by omega) (by omega)) h108)
    rw [ei]
    exact kk _ _ _  hA
  | succ k ih =>
    intro i A l G  hi hA
    obtain ⟨hn, hn12, hp, hp6, hlw, ht, hL⟩ := hX
    have hr0 := hA r0 (by omega)
    have hn' : A r0 12 0 = nI n := by rw [hr0]; exact hn
    have hp' : A r0 12 1 = nI p := by rw [hr0]; exact hp
    have hlw' : A r0 12 4 = nI t := by rw [hr0]; exact hlw
    refine W_iload d_107_104 rfl ?_
    refine W_iload d_107_106 rfl ?_
    refine W_icmp_ge (tgt := 153) d_107_108 (by decide) (fun h108 => absurd h108 (nI_ge (a := i) (b := ch) (by omega) (by omega))) (fun h108 => ?_)
    refine W_aload_n d_107_111 rfl (by decide) ?_
    refine W_iload_n d_107_112 rfl ?_
    refine W_iload d_107_113 rfl ?_
    refine W_iload d_107_115 rfl ?_
    refine W_iload_n d_107_117 rfl ?_
    refine W_callVG d_107_118 o_107 (Or.inl k_6_198) (by omega) (x_124 e0 e1 ht hL hn' hn12 hp' hp6 hlw' (m := m) (by omega) (j := j) (by omega) (by omega)) rfl (mrecv_of rfl o_124.symm) rfl (Nat.le_of_ble_eq_true rfl) (fun G' => ?_)
    have hq := tho_eq (Lr := T t) (z := z) (A := A) (r0 := r0) (r1 := r1) (p := p) (by omega) hn12 hp6 hn' m (j := j) (w := wv) (v := nI i)
    rw [hr0] at hq
    have hne : ∀ r, ¬ r = r1 → hrs (ochg (bkA A r1 r0 n) r1 j (wv) (nI i)) r1 (T t) z n p m r = A0 r := fun r hr => (tho_ne hr).trans (hA r hr)
    have hn1 : hrs (ochg (bkA A r1 r0 n) r1 j (wv) (nI i)) r1 (T t) z n p m r1 12 0 = nI n := (hrs_ap _ _ _ _ _ _ _ _ (by decide) _).trans ((ochg_12 _ _ _ _ _ _ _).trans ((bkA_12 _ _ _ _ 0 (by decide)).trans hn'))
    generalize hrs (ochg (bkA A r1 r0 n) r1 j (wv) (nI i)) r1 (T t) z n p m = A2 at hq hne hn1 ⊢
    refine W_aload_n d_107_121 rfl (by decide) ?_
    refine W_getf d_107_122 o_107 k_6_16 rfl rfl ?_
    show Wp _ _ _ _ (Value.ref (rb 1) :: _) _ _
    rw [show rb 1 = rb r1 from by rw [e1]]
    have hq1 : r1 < 3 := by omega
    refine W_aload_n d_107_125 rfl (by decide) ?_
    refine W_getf d_107_126 o_107 k_6_37 rfl rfl ?_
    refine W_iload_n d_107_129 rfl ?_
    refine W_aald d_107_130 rfl (vp_in_nI (by omega) (by decide)) (sha_v (by omega)) ?_
    refine W_callV d_107_131 o_107 (Or.inl k_6_225) (by omega) (x_76 (show r1 < 3 by omega) hs hn1 hn12) rfl (mrecv_of (h_road (by assumption)) o_76.symm) rfl (Nat.le_of_ble_eq_true rfl) ?_
    refine W_iconst d_107_134 (v := (-1)) (by decide) ?_
    refine W_icmp_ne (tgt := 147) d_107_135 (by decide) (fun h135 => ?_) (fun h135 => ?_)
    · refine W_iinc (v := 1) d_107_147 rfl (by decide) rfl ?_
      rw [show ((nI i + 1 : Int32)) = nI (i + 1) from nI_add i 1]
      refine W_goto (tgt := 104) d_107_150 (by decide) ?_
      have e := hq.fo (K s 0)
      rw [e] at h135
      have h9 := ih (i + 1) A2 l G' (by omega) hne
      rw [btf, if_neg (show ¬ (fun v => fo (K s 0) (gon (chg (A0 r0) j wv (nI v)) (T t) z n p m 2) n 0) i = -1 from h135)] at h9
      exact h9
    · refine W_iload d_107_138 rfl ?_
      refine W_iconst d_107_140 (v := 1) (by decide) ?_
      refine W_iload d_107_141 rfl ?_
      refine W_ishl d_107_143 ?_
      refine W_ior d_107_144 ?_
      refine W_istore d_107_145 rfl ?_
      refine W_iinc (v := 1) d_107_147 rfl (by decide) rfl ?_
      rw [show ((nI i + 1 : Int32)) = nI (i + 1) from nI_add i 1]
      refine W_goto (tgt := 104) d_107_150 (by decide) ?_
      have e := hq.fo (K s 0)
      rw [e] at h135
      have h9 := ih (i + 1) A2 l G' (by omega) hne
      rw [btf, if_pos (show (fun v => fo (K s 0) (gon (chg (A0 r0) j wv (nI v)) (T t) z n p m 2) n 0) i = -1 from h135)] at h9
      exact h9
theorem p_107_0 {d : Nat} {g : mG} {N : Nat} {A T K : Nat → tR} {B : tR} {E : Nat → Int32} {l : Int64} {G : tR} {Qm : Nat → mC} {r0 r1 : Nat} (e0 : r0 = 0) (e1 : r1 = 1) {z : Nat → Nat} {n p t : Nat} (hX : CX (A r0) T z n p t) {m : Nat} (hm : m ≤ 48) {s : Nat} (hs : s < 4) (hr : rfv K n (nI s) = 0) {j : Nat} (hj : j < n) (hd : 9 ≤ d) : Wp d 107 0 (ment 107 [.ref 0, .int (nI s), .int (nI m), .int (nI j), .int 0]) [] (N, H3 g (cc A T K B E l G) Qm) (fun v M' => v = some (.int (btf (fun v => fo (K s 0) (gon (chg (A r0) j 5 (nI v)) (T t) z n p m 2) n 0) 6)) ∧ ∃ A' l' G', M' = (N, H3 g (cc A' T K B E l' G') Qm) ∧ ∀ r, ¬ r = r1 → A' r = A r) := by
  have hn12 := hX.2.1
  show Wp _ 107 0 [.ref 0, .int (nI s), .int (nI m), .int (nI j), .int 0, .null, .null, .null, .null, .null] [] _ _
  refine W_aload_n d_107_0 rfl (by decide) ?_
  refine W_iload_n d_107_1 rfl ?_
  refine W_callV d_107_2 o_107 (Or.inl k_6_222) (by omega) (p_111 e0 e1 hX.1 (by omega)) rfl (mrecv_of rfl o_111.symm) rfl (Nat.le_of_ble_eq_true rfl) ?_
  refine W_istore d_107_5 rfl ?_
  refine W_iload d_107_7 rfl ?_
  refine W_if_eq (tgt := 15) d_107_9 (by decide) (fun h9 => ?_) (fun h9 => absurd hr h9)
  refine W_aload_n d_107_15 rfl (by decide) ?_
  refine W_getf d_107_16 o_107 k_6_10 rfl rfl ?_
  show Wp _ _ _ _ (Value.ref (rb 0) :: _) _ _
  rw [show rb 0 = rb r0 from by rw [e0]]
  have hq0 : r0 < 3 := by omega
  refine W_iload_n d_107_19 rfl ?_
  refine W_callV d_107_20 o_107 (Or.inl k_6_103) (by omega) (x_56 (show r0 < 3 by omega)) rfl (mrecv_of (h_road (by assumption)) o_56.symm) rfl (Nat.le_of_ble_eq_true rfl) ?_
  refine W_if_ne (tgt := 29) d_107_23 (by decide) (fun h23 => ?_) (fun h23 => absurd h23 (fun q => bI_f q ⟨nI_pos' (by omega), by rw [hX.1]; exact nI_lt hj (by omega)⟩))
  refine W_iload_n d_107_29 rfl ?_
  refine W_callS d_107_30 o_107 k_6_167 (by omega) (x_130 (by omega)) rfl (Nat.le_of_ble_eq_true rfl) ?_
  refine W_if_eq (tgt := 47) d_107_33 (by decide) (fun h33 => absurd h33 (fun q => bI_f q ⟨nI_pos' (by omega), nI_le (a := m) (b := 48) hm (by decide)⟩)) (fun h33 => ?_)
  refine W_iload d_107_36 rfl ?_
  refine W_if_lt (tgt := 47) d_107_38 (by decide) (fun h38 => absurd h38 (by decide)) (fun _ => ?_)
  refine W_iload d_107_41 rfl ?_
  refine W_iconst d_107_43 (v := 2) (by decide) ?_
  refine W_icmp_le (tgt := 50) d_107_44 (by decide) (fun _ => ?_) (fun h44 => absurd h44 (by decide))
  refine W_iload d_107_50 rfl ?_
  refine W_if_ne (tgt := 59) d_107_52 (by decide) (fun h52 => absurd h52 (by decide)) (fun _ => ?_)
  refine W_iconst d_107_55 (v := 5) (by decide) ?_
  refine W_goto (tgt := 71) d_107_56 (by decide) ?_
  refine W_istore d_107_71 rfl ?_
  refine W_iload d_107_73 rfl ?_
  refine W_if_ne (tgt := 83) d_107_75 (by decide) (fun h75 => absurd h75 (by decide)) (fun _ => ?_)
  refine W_bipush d_107_78 (v := 6) (by decide) ?_
  refine W_goto (tgt := 96) d_107_80 (by decide) ?_
  refine W_istore d_107_96 rfl ?_
  refine W_iconst d_107_98 (v := 0) (by decide) ?_
  refine W_istore d_107_99 rfl ?_
  refine W_iconst d_107_101 (v := 0) (by decide) ?_
  refine W_istore d_107_102 rfl ?_
  refine lp_107 (A0 := A) (ch := 6) e0 e1 hX hm hj hs (by decide) hd (fun A2 l2 G2 hA2 => ?_) 6 0 _ _ _ (by omega) (fun _ _ => rfl)
  refine W_iload d_107_153 rfl ?_
  refine W_iret d_107_155 rt_107 rfl ?_
  exact ⟨rfl, _, _, _, rfl, hA2⟩
theorem p_107_1 {d : Nat} {g : mG} {N : Nat} {A T K : Nat → tR} {B : tR} {E : Nat → Int32} {l : Int64} {G : tR} {Qm : Nat → mC} {r0 r1 : Nat} (e0 : r0 = 0) (e1 : r1 = 1) {z : Nat → Nat} {n p t : Nat} (hX : CX (A r0) T z n p t) {m : Nat} (hm : m ≤ 48) {s : Nat} (hs : s < 4) (hr : rfv K n (nI s) = 0) {j : Nat} (hj : j < n) (hd : 9 ≤ d) : Wp d 107 0 (ment 107 [.ref 0, .int (nI s), .int (nI m), .int (nI j), .int 1]) [] (N, H3 g (cc A T K B E l G) Qm) (fun v M' => v = some (.int (btf (fun v => fo (K s 0) (gon (chg (A r0) j 6 (nI v)) (T t) z n p m 2) n 0) 10)) ∧ ∃ A' l' G', M' = (N, H3 g (cc A' T K B E l' G') Qm) ∧ ∀ r, ¬ r = r1 → A' r = A r) := by
  have hn12 := hX.2.1
  show Wp _ 107 0 [.ref 0, .int (nI s), .int (nI m), .int (nI j), .int 1, .null, .null, .null, .null, .null] [] _ _
  refine W_aload_n d_107_0 rfl (by decide) ?_
  refine W_iload_n d_107_1 rfl ?_
  refine W_callV d_107_2 o_107 (Or.inl k_6_222) (by omega) (p_111 e0 e1 hX.1 (by omega)) rfl (mrecv_of rfl o_111.symm) rfl (Nat.le_of_ble_eq_true rfl) ?_
  refine W_istore d_107_5 rfl ?_
  refine W_iload d_107_7 rfl ?_
  refine W_if_eq (tgt := 15) d_107_9 (by decide) (fun h9 => ?_) (fun h9 => absurd hr h9)
  refine W_aload_n d_107_15 rfl (by decide) ?_
  refine W_getf d_107_16 o_107 k_6_10 rfl rfl ?_
  show Wp _ _ _ _ (Value.ref (rb 0) :: _) _ _
  rw [show rb 0 = rb r0 from by rw [e0]]
  have hq0 : r0 < 3 := by omega
  refine W_iload_n d_107_19 rfl ?_
  refine W_callV d_107_20 o_107 (Or.inl k_6_103) (by omega) (x_56 (show r0 < 3 by omega)) rfl (mrecv_of (h_road (by assumption)) o_56.symm) rfl (Nat.le_of_ble_eq_true rfl) ?_
  refine W_if_ne (tgt := 29) d_107_23 (by decide) (fun h23 => ?_) (fun h23 => absurd h23 (fun q => bI_f q ⟨nI_pos' (by omega), by rw [hX.1]; exact nI_lt hj (by omega)⟩))
  refine W_iload_n d_107_29 rfl ?_
  refine W_callS d_107_30 o_107 k_6_167 (by omega) (x_130 (by omega)) rfl (Nat.le_of_ble_eq_true rfl) ?_
  refine W_if_eq (tgt := 47) d_107_33 (by decide) (fun h33 => absurd h33 (fun q => bI_f q ⟨nI_pos' (by omega), nI_le (a := m) (b := 48) hm (by decide)⟩)) (fun h33 => ?_)
  refine W_iload d_107_36 rfl ?_
  refine W_if_lt (tgt := 47) d_107_38 (by decide) (fun h38 => absurd h38 (by decide)) (fun _ => ?_)
  refine W_iload d_107_41 rfl ?_
  refine W_iconst d_107_43 (v := 2) (by decide) ?_
  refine W_icmp_le (tgt := 50) d_107_44 (by decide) (fun _ => ?_) (fun h44 => absurd h44 (by decide))
  refine W_iload d_107_50 rfl ?_
  refine W_if_ne (tgt := 59) d_107_52 (by decide) (fun _ => ?_) (fun h52 => absurd h52 (by decide))
  refine W_iload d_107_59 rfl ?_
  refine W_iconst d_107_61 (v := 1) (by decide) ?_
  refine W_icmp_ne (tgt := 70) d_107_62 (by decide) (fun h62 => absurd h62 (by decide)) (fun _ => ?_)
  refine W_bipush d_107_65 (v := 6) (by decide) ?_
  refine W_goto (tgt := 71) d_107_67 (by decide) ?_
  refine W_istore d_107_71 rfl ?_
  refine W_iload d_107_73 rfl ?_
  refine W_if_ne (tgt := 83) d_107_75 (by decide) (fun _ => ?_) (fun h75 => absurd h75 (by decide))
  refine W_iload d_107_83 rfl ?_
  refine W_iconst d_107_85 (v := 1) (by decide) ?_
  refine W_icmp_ne (tgt := 94) d_107_86 (by decide) (fun h86 => absurd h86 (by decide)) (fun _ => ?_)
  refine W_bipush d_107_89 (v := 10) (by decide) ?_
  refine W_goto (tgt := 96) d_107_91 (by decide) ?_
  refine W_istore d_107_96 rfl ?_
  refine W_iconst d_107_98 (v := 0) (by decide) ?_
  refine W_istore d_107_99 rfl ?_
  refine W_iconst d_107_101 (v := 0) (by decide) ?_
  refine W_istore d_107_102 rfl ?_
  refine lp_107 (A0 := A) (ch := 10) e0 e1 hX hm hj hs (by decide) hd (fun A2 l2 G2 hA2 => ?_) 10 0 _ _ _ (by omega) (fun _ _ => rfl)
  refine W_iload d_107_153 rfl ?_
  refine W_iret d_107_155 rt_107 rfl ?_
  exact ⟨rfl, _, _, _, rfl, hA2⟩
theorem p_107_2 {d : Nat} {g : mG} {N : Nat} {A T K : Nat → tR} {B : tR} {E : Nat → Int32} {l : Int64} {G : tR} {Qm : Nat → mC} {r0 r1 : Nat} (e0 : r0 = 0) (e1 : r1 = 1) {z : Nat → Nat} {n p t : Nat} (hX : CX (A r0) T z n p t) {m : Nat} (hm : m ≤ 48) {s : Nat} (hs : s < 4) (hr : rfv K n (nI s) = 0) {j : Nat} (hj : j < n) (hd : 9 ≤ d) : Wp d 107 0 (ment 107 [.ref 0, .int (nI s), .int (nI m), .int (nI j), .int 2]) [] (N, H3 g (cc A T K B E l G) Qm) (fun v M' => v = some (.int (btf (fun v => fo (K s 0) (gon (chg (A r0) j 3 (nI v)) (T t) z n p m 2) n 0) 24)) ∧ ∃ A' l' G', M' = (N, H3 g (cc A' T K B E l' G') Qm) ∧ ∀ r, ¬ r = r1 → A' r = A r) := by
  have hn12 := hX.2.1
  show Wp _ 107 0 [.ref 0, .int (nI s), .int (nI m), .int (nI j), .int 2, .null, .null, .null, .null, .null] [] _ _
  refine W_aload_n d_107_0 rfl (by decide) ?_
  refine W_iload_n d_107_1 rfl ?_
  refine W_callV d_107_2 o_107 (Or.inl k_6_222) (by omega) (p_111 e0 e1 hX.1 (by omega)) rfl (mrecv_of rfl o_111.symm) rfl (Nat.le_of_ble_eq_true rfl) ?_
  refine W_istore d_107_5 rfl ?_
  refine W_iload d_107_7 rfl ?_
  refine W_if_eq (tgt := 15) d_107_9 (by decide) (fun h9 => ?_) (fun h9 => absurd hr h9)
  refine W_aload_n d_107_15 rfl (by decide) ?_
  refine W_getf d_107_16 o_107 k_6_10 rfl rfl ?_
  show Wp _ _ _ _ (Value.ref (rb 0) :: _) _ _
  rw [show rb 0 = rb r0 from by rw [e0]]
  have hq0 : r0 < 3 := by omega
  refine W_iload_n d_107_19 rfl ?_
  refine W_callV d_107_20 o_107 (Or.inl k_6_103) (by omega) (x_56 (show r0 < 3 by omega)) rfl (mrecv_of (h_road (by assumption)) o_56.symm) rfl (Nat.le_of_ble_eq_true rfl) ?_
  refine W_if_ne (tgt := 29) d_107_23 (by decide) (fun h23 => ?_) (fun h23 => absurd h23 (fun q => bI_f q ⟨nI_pos' (by omega), by rw [hX.1]; exact nI_lt hj (by omega)⟩))
  refine W_iload_n d_107_29 rfl ?_
  refine W_callS d_107_30 o_107 k_6_167 (by omega) (x_130 (by omega)) rfl (Nat.le_of_ble_eq_true rfl) ?_
  refine W_if_eq (tgt := 47) d_107_33 (by decide) (fun h33 => absurd h33 (fun q => bI_f q ⟨nI_pos' (by omega), nI_le (a := m) (b := 48) hm (by decide)⟩)) (fun h33 => ?_)
  refine W_iload d_107_36 rfl ?_
  refine W_if_lt (tgt := 47) d_107_38 (by decide) (fun h38 => absurd h38 (by decide)) (fun _ => ?_)
  refine W_iload d_107_41 rfl ?_
  refine W_iconst d_107_43 (v := 2) (by decide) ?_
  refine W_icmp_le (tgt := 50) d_107_44 (by decide) (fun _ => ?_) (fun h44 => absurd h44 (by decide))
  refine W_iload d_107_50 rfl ?_
  refine W_if_ne (tgt := 59) d_107_52 (by decide) (fun _ => ?_) (fun h52 => absurd h52 (by decide))
  refine W_iload d_107_59 rfl ?_
  refine W_iconst d_107_61 (v := 1) (by decide) ?_
  refine W_icmp_ne (tgt := 70) d_107_62 (by decide) (fun _ => ?_) (fun h62 => absurd h62 (by decide))
  refine W_iconst d_107_70 (v := 3) (by decide) ?_
  refine W_istore d_107_71 rfl ?_
  refine W_iload d_107_73 rfl ?_
  refine W_if_ne (tgt := 83) d_107_75 (by decide) (fun _ => ?_) (fun h75 => absurd h75 (by decide))
  refine W_iload d_107_83 rfl ?_
  refine W_iconst d_107_85 (v := 1) (by decide) ?_
  refine W_icmp_ne (tgt := 94) d_107_86 (by decide) (fun _ => ?_) (fun h86 => absurd h86 (by decide))
  refine W_bipush d_107_94 (v := 24) (by decide) ?_
  refine W_istore d_107_96 rfl ?_
  refine W_iconst d_107_98 (v := 0) (by decide) ?_
  refine W_istore d_107_99 rfl ?_
  refine W_iconst d_107_101 (v := 0) (by decide) ?_
  refine W_istore d_107_102 rfl ?_
  refine lp_107 (A0 := A) (ch := 24) e0 e1 hX hm hj hs (by decide) hd (fun A2 l2 G2 hA2 => ?_) 24 0 _ _ _ (by omega) (fun _ _ => rfl)
  refine W_iload d_107_153 rfl ?_
  refine W_iret d_107_155 rt_107 rfl ?_
  exact ⟨rfl, _, _, _, rfl, hA2⟩
theorem p_107a {d : Nat} {g : mG} {N : Nat} {A T K : Nat → tR} {B : tR} {E : Nat → Int32} {l : Int64} {G : tR} {Qm : Nat → mC} {r0 r1 : Nat} (e0 : r0 = 0) (e1 : r1 = 1) {z : Nat → Nat} {n p t : Nat} (hX : CX (A r0) T z n p t) {v w u so : Int32} (hb : ¬ rfv K n v = 0) (hd : 4 ≤ d) : Ex d 107 [.ref 0, .int v, .int w, .int u, .int so] (N, H3 g (cc A T K B E l G) Qm) (some (.int (rfv K n v))) (N, H3 g (cc A T K B E l G) Qm) := by
  refine Ex.of ?_
  show Wp _ 107 0 [.ref 0, .int v, .int w, .int u, .int so, .null, .null, .null, .null, .null] [] _ _
  refine W_aload_n d_107_0 rfl (by decide) ?_
  refine W_iload_n d_107_1 rfl ?_
  refine W_callV d_107_2 o_107 (Or.inl k_6_222) (by omega) (p_111 e0 e1 hX.1 (by omega)) rfl (mrecv_of rfl o_111.symm) rfl (Nat.le_of_ble_eq_true rfl) ?_
  refine W_istore d_107_5 rfl ?_
  refine W_iload d_107_7 rfl ?_
  refine W_if_eq (tgt := 15) d_107_9 (by decide) (fun h9 => absurd h9 hb) (fun h9 => ?_)
  refine W_iload d_107_12 rfl ?_
  refine W_iret d_107_14 rt_107 rfl ?_
  exact ⟨rfl, rfl⟩
theorem p_107b {d : Nat} {g : mG} {N : Nat} {A T K : Nat → tR} {B : tR} {E : Nat → Int32} {l : Int64} {G : tR} {Qm : Nat → mC} {r0 r1 : Nat} (e0 : r0 = 0) (e1 : r1 = 1) {z : Nat → Nat} {n p t : Nat} (hX : CX (A r0) T z n p t) {v w u so : Int32} (hr : rfv K n v = 0) (hb : ¬ (0 ≤ u ∧ u < A r0 12 0)) (hd : 4 ≤ d) : Ex d 107 [.ref 0, .int v, .int w, .int u, .int so] (N, H3 g (cc A T K B E l G) Qm) (some (.int (-5))) (N, H3 g (cc A T K B E l G) Qm) := by
  refine Ex.of ?_
  show Wp _ 107 0 [.ref 0, .int v, .int w, .int u, .int so, .null, .null, .null, .null, .null] [] _ _
  refine W_aload_n d_107_0 rfl (by decide) ?_
  refine W_iload_n d_107_1 rfl ?_
  refine W_callV d_107_2 o_107 (Or.inl k_6_222) (by omega) (p_111 e0 e1 hX.1 (by omega)) rfl (mrecv_of rfl o_111.symm) rfl (Nat.le_of_ble_eq_true rfl) ?_
  refine W_istore d_107_5 rfl ?_
  refine W_iload d_107_7 rfl ?_
  refine W_if_eq (tgt := 15) d_107_9 (by decide) (fun h9 => ?_) (fun h9 => absurd hr h9)
  refine W_aload_n d_107_15 rfl (by decide) ?_
  refine W_getf d_107_16 o_107 k_6_10 rfl rfl ?_
  show Wp _ _ _ _ (Value.ref (rb 0) :: _) _ _
  rw [show rb 0 = rb r0 from by rw [e0]]
  have hq0 : r0 < 3 := by omega
  refine W_iload_n d_107_19 rfl ?_
  refine W_callV d_107_20 o_107 (Or.inl k_6_103) (by omega) (x_56 (show r0 < 3 by omega)) rfl (mrecv_of (h_road (by assumption)) o_56.symm) rfl (Nat.le_of_ble_eq_true rfl) ?_
  refine W_if_ne (tgt := 29) d_107_23 (by decide) (fun h23 => absurd (bI_ne.mpr hb) h23) (fun h23 => ?_)
  refine W_bipush d_107_26 (v := (-5)) (by decide) ?_
  refine W_iret d_107_28 rt_107 rfl ?_
  exact ⟨rfl, rfl⟩
theorem p_107c {d : Nat} {g : mG} {N : Nat} {A T K : Nat → tR} {B : tR} {E : Nat → Int32} {l : Int64} {G : tR} {Qm : Nat → mC} {r0 r1 : Nat} (e0 : r0 = 0) (e1 : r1 = 1) {z : Nat → Nat} {n p t : Nat} (hX : CX (A r0) T z n p t) {v w u so : Int32} (hr : rfv K n v = 0) (ha : 0 ≤ u ∧ u < A r0 12 0) (hb : ¬ ((0 ≤ w ∧ w ≤ 48) ∧ 0 ≤ so ∧ so ≤ 2)) (hd : 4 ≤ d) : Ex d 107 [.ref 0, .int v, .int w, .int u, .int so] (N, H3 g (cc A T K B E l G) Qm) (some (.int (-7))) (N, H3 g (cc A T K B E l G) Qm) := by
  refine Ex.of ?_
  show Wp _ 107 0 [.ref 0, .int v, .int w, .int u, .int so, .null, .null, .null, .null, .null] [] _ _
  refine W_aload_n d_107_0 rfl (by decide) ?_
  refine W_iload_n d_107_1 rfl ?_
  refine W_callV d_107_2 o_107 (Or.inl k_6_222) (by omega) (p_111 e0 e1 hX.1 (by omega)) rfl (mrecv_of rfl o_111.symm) rfl (Nat.le_of_ble_eq_true rfl) ?_
  refine W_istore d_107_5 rfl ?_
  refine W_iload d_107_7 rfl ?_
  refine W_if_eq (tgt := 15) d_107_9 (by decide) (fun h9 => ?_) (fun h9 => absurd hr h9)
  refine W_aload_n d_107_15 rfl (by decide) ?_
  refine W_getf d_107_16 o_107 k_6_10 rfl rfl ?_
  show Wp _ _ _ _ (Value.ref (rb 0) :: _) _ _
  rw [show rb 0 = rb r0 from by rw [e0]]
  have hq0 : r0 < 3 := by omega
  refine W_iload_n d_107_19 rfl ?_
  refine W_callV d_107_20 o_107 (Or.inl k_6_103) (by omega) (x_56 (show r0 < 3 by omega)) rfl (mrecv_of (h_road (by assumption)) o_56.symm) rfl (Nat.le_of_ble_eq_true rfl) ?_
  refine W_if_ne (tgt := 29) d_107_23 (by decide) (fun h23 => ?_) (fun h23 => absurd h23 (fun q => bI_f q ha))
  refine W_iload_n d_107_29 rfl ?_
  refine W_callS d_107_30 o_107 k_6_167 (by omega) (x_130 (by omega)) rfl (Nat.le_of_ble_eq_true rfl) ?_
  refine W_if_eq (tgt := 47) d_107_33 (by decide) (fun h33 => ?_) (fun h33 => ?_)
  · refine W_bipush d_107_47 (v := (-7)) (by decide) ?_
    refine W_iret d_107_49 rt_107 rfl ?_
    exact ⟨rfl, rfl⟩
  · refine W_iload d_107_36 rfl ?_
    refine W_if_lt (tgt := 47) d_107_38 (by decide) (fun h38 => ?_) (fun h38 => ?_)
    · refine W_bipush d_107_47 (v := (-7)) (by decide) ?_
      refine W_iret d_107_49 rt_107 rfl ?_
      exact ⟨rfl, rfl⟩
    · refine W_iload d_107_41 rfl ?_
      refine W_iconst d_107_43 (v := 2) (by decide) ?_
      refine W_icmp_le (tgt := 50) d_107_44 (by decide) (fun h44 => ?_) (fun h44 => ?_)
      · exact (hb ⟨bI_t h33, Int32.not_lt.mp h38, h44⟩).elim
      · refine W_bipush d_107_47 (v := (-7)) (by decide) ?_
        refine W_iret d_107_49 rt_107 rfl ?_
        exact ⟨rfl, rfl⟩
theorem lp_108 {d : Nat} {g : mG} {N : Nat} {A0 T K : Nat → tR} {B : tR} {E : Nat → Int32} {Qm : Nat → mC} {r0 r1 : Nat} (e0 : r0 = 0) (e1 : r1 = 1) {z : Nat → Nat} {n p t : Nat} (hX : CX (A0 r0) T z n p t) {s : Nat} (hs : s < 4) {w rv : Int32} (hd : 9 ≤ d) {Q : Option Value → mM → Prop} (kk : ∀ (A : Nat → tR) (l : Int64) (G : tR), (∀ r, ¬ r = r1 → A r = A0 r) → Wp d 108 90 [.ref 0, .int (nI s), .int w, .int rv, .int (hrf (fun i => fo (K s 0) (gon (A0 r0) (T t) z n p i 2) n 0) 49).1, .int (hrf (fun i => fo (K s 0) (gon (A0 r0) (T t) z n p i 2) n 0) 49).2, .int (nI 49)] [] (N, H3 g (cc A T K B E l G) Qm) Q) : ∀ (k i : Nat) (A : Nat → tR) (l : Int64) (G : tR), i + k = 49 → ((∀ r, ¬ r = r1 → A r = A0 r) ∧ EQ n (A r1) (gon (A0 r0) (T t) z n p i) ∧ A r1 12 0 = nI n ∧ A r1 12 1 = nI p ∧ A r1 12 4 = nI t) → Wp d 108 37 [.ref 0, .int (nI s), .int w, .int rv, .int (hrf (fun i => fo (K s 0) (gon (A0 r0) (T t) z n p i 2) n 0) i).1, .int (hrf (fun i => fo (K s 0) (gon (A0 r0) (T t) z n p i 2) n 0) i).2, .int (nI i)] [] (N, H3 g (cc A T K B E l G) Qm) Q := by
  obtain ⟨hn, hn12, hp, hp6, hlw, ht, hL⟩ := hX
  intro k
  induction k with
  | zero =>
    intro i A l G hi hA
    have ei : i = 49 := by omega
    refine W_iload d_108_37 rfl ?_
    refine W_bipush d_108_39 (v := 48) (by decide) ?_
    refine W_icmp_gt (tgt := 90) d_108_41 (by decide) (fun h41 => ?_) (fun h41 => absurd (nI_lt (a := 48) (b := i) (by omega) (by omega)) h41)
    rw [ei]
    exact kk _ _ _ hA.1
  | succ k ih =>
    intro i A l G hi hA
    obtain ⟨hne, hq, hn', hp', hl'⟩ := hA
    refine W_iload d_108_37 rfl ?_
    refine W_bipush d_108_39 (v := 48) (by decide) ?_
    refine W_icmp_gt (tgt := 90) d_108_41 (by decide) (fun h41 => absurd h41 (nI_nlt (a := 48) (b := i) (by omega) (by omega))) (fun h41 => ?_)
    refine W_aload_n d_108_44 rfl (by decide) ?_
    refine W_getf d_108_45 o_108 k_6_16 rfl rfl ?_
    show Wp _ _ _ _ (Value.ref (rb 1) :: _) _ _
    rw [show rb 1 = rb r1 from by rw [e1]]
    have hq1 : r1 < 3 := by omega
    refine W_aload_n d_108_48 rfl (by decide) ?_
    refine W_getf d_108_49 o_108 k_6_37 rfl rfl ?_
    refine W_iload_n d_108_52 rfl ?_
    refine W_aald d_108_53 rfl (vp_in_nI (by omega) (by decide)) (sha_v (by omega)) ?_
    refine W_callV d_108_54 o_108 (Or.inl k_6_225) (by omega) (x_76 (show r1 < 3 by omega) hs hn' hn12) rfl (mrecv_of (h_road (by assumption)) o_76.symm) rfl (Nat.le_of_ble_eq_true rfl) ?_
    refine W_iconst d_108_57 (v := (-1)) (by decide) ?_
    refine W_icmp_ne (tgt := 79) d_108_58 (by decide) (fun h58 => ?_) (fun h58 => ?_)
    · refine W_aload_n d_108_79 rfl (by decide) ?_
      refine W_iconst d_108_80 (v := 1) (by decide) ?_
      refine W_callVG d_108_81 o_108 (Or.inl k_6_179) (by omega) (x_123 e0 e1 ht hL (n := n) (p := p) (m := 1) hn' hn12 hp' hp6 hl' (by omega) (by omega)) rfl (mrecv_of rfl o_123.symm) rfl (Nat.le_of_ble_eq_true rfl) (fun G' => ?_)
      have hq2 : EQ n (hrs A r1 (T t) z n p 1 r1) (gon (A0 r0) (T t) z n p (i + 1)) := hrA_eq (A' := hrs (fun _ => zt (A0 r0)) 0 (T t) z n p i) (r' := 0) hn12 hp6 hq hn'
      have hne2 : ∀ r, ¬ r = r1 → hrs A r1 (T t) z n p 1 r = A0 r := fun r hr => (hrs_ne hr 1).trans (hne r hr)
      have hn2 : hrs A r1 (T t) z n p 1 r1 12 0 = nI n := (hrs_ap _ _ _ _ _ _ _ _ (by decide) _).trans hn'
      have hp2 : hrs A r1 (T t) z n p 1 r1 12 1 = nI p := (hrs_ap _ _ _ _ _ _ _ _ (by decide) _).trans hp'
      have hl2 : hrs A r1 (T t) z n p 1 r1 12 4 = nI t := (hrs_ap _ _ _ _ _ _ _ _ (by decide) _).trans hl'
      generalize hrs A r1 (T t) z n p 1 = A2 at hq2 hne2 hn2 hp2 hl2 ⊢
      refine W_iinc (v := 1) d_108_84 rfl (by decide) rfl ?_
      rw [show ((nI i + 1 : Int32)) = nI (i + 1) from nI_add i 1]
      refine W_goto (tgt := 37) d_108_87 (by decide) ?_
      have e := hq.fo (K s 0)
      rw [e] at h58
      have h9 := ih (i + 1) A2 l G' (by omega) ⟨hne2, hq2, hn2, hp2, hl2⟩
      rw [hrf, if_neg (show ¬ (fun i => fo (K s 0) (gon (A0 r0) (T t) z n p i 2) n 0) i = -1 from h58)] at h9
      exact h9
    · refine W_iinc (v := 1) d_108_61 rfl (by decide) rfl ?_
      refine W_iload d_108_64 rfl ?_
      refine W_iconst d_108_66 (v := (-1)) (by decide) ?_
      refine W_icmp_ne (tgt := 75) d_108_67 (by decide) (fun h67 => ?_) (fun h67 => ?_)
      · refine W_iload d_108_75 rfl ?_
        refine W_istore d_108_77 rfl ?_
        refine W_aload_n d_108_79 rfl (by decide) ?_
        refine W_iconst d_108_80 (v := 1) (by decide) ?_
        refine W_callVG d_108_81 o_108 (Or.inl k_6_179) (by omega) (x_123 e0 e1 ht hL (n := n) (p := p) (m := 1) hn' hn12 hp' hp6 hl' (by omega) (by omega)) rfl (mrecv_of rfl o_123.symm) rfl (Nat.le_of_ble_eq_true rfl) (fun G' => ?_)
        have hq2 : EQ n (hrs A r1 (T t) z n p 1 r1) (gon (A0 r0) (T t) z n p (i + 1)) := hrA_eq (A' := hrs (fun _ => zt (A0 r0)) 0 (T t) z n p i) (r' := 0) hn12 hp6 hq hn'
        have hne2 : ∀ r, ¬ r = r1 → hrs A r1 (T t) z n p 1 r = A0 r := fun r hr => (hrs_ne hr 1).trans (hne r hr)
        have hn2 : hrs A r1 (T t) z n p 1 r1 12 0 = nI n := (hrs_ap _ _ _ _ _ _ _ _ (by decide) _).trans hn'
        have hp2 : hrs A r1 (T t) z n p 1 r1 12 1 = nI p := (hrs_ap _ _ _ _ _ _ _ _ (by decide) _).trans hp'
        have hl2 : hrs A r1 (T t) z n p 1 r1 12 4 = nI t := (hrs_ap _ _ _ _ _ _ _ _ (by decide) _).trans hl'
        generalize hrs A r1 (T t) z n p 1 = A2 at hq2 hne2 hn2 hp2 hl2 ⊢
        refine W_iinc (v := 1) d_108_84 rfl (by decide) rfl ?_
        rw [show ((nI i + 1 : Int32)) = nI (i + 1) from nI_add i 1]
        refine W_goto (tgt := 37) d_108_87 (by decide) ?_
        have e := hq.fo (K s 0)
        rw [e] at h58
        have h9 := ih (i + 1) A2 l G' (by omega) ⟨hne2, hq2, hn2, hp2, hl2⟩
        rw [hrf, if_pos (show (fun i => fo (K s 0) (gon (A0 r0) (T t) z n p i 2) n 0) i = -1 from h58), if_neg h67] at h9
        exact h9
      · refine W_iload d_108_70 rfl ?_
        refine W_goto (tgt := 77) d_108_72 (by decide) ?_
        refine W_istore d_108_77 rfl ?_
        refine W_aload_n d_108_79 rfl (by decide) ?_
        refine W_iconst d_108_80 (v := 1) (by decide) ?_
        refine W_callVG d_108_81 o_108 (Or.inl k_6_179) (by omega) (x_123 e0 e1 ht hL (n := n) (p := p) (m := 1) hn' hn12 hp' hp6 hl' (by omega) (by omega)) rfl (mrecv_of rfl o_123.symm) rfl (Nat.le_of_ble_eq_true rfl) (fun G' => ?_)
        have hq2 : EQ n (hrs A r1 (T t) z n p 1 r1) (gon (A0 r0) (T t) z n p (i + 1)) := hrA_eq (A' := hrs (fun _ => zt (A0 r0)) 0 (T t) z n p i) (r' := 0) hn12 hp6 hq hn'
        have hne2 : ∀ r, ¬ r = r1 → hrs A r1 (T t) z n p 1 r = A0 r := fun r hr => (hrs_ne hr 1).trans (hne r hr)
        have hn2 : hrs A r1 (T t) z n p 1 r1 12 0 = nI n := (hrs_ap _ _ _ _ _ _ _ _ (by decide) _).trans hn'
        have hp2 : hrs A r1 (T t) z n p 1 r1 12 1 = nI p := (hrs_ap _ _ _ _ _ _ _ _ (by decide) _).trans hp'
        have hl2 : hrs A r1 (T t) z n p 1 r1 12 4 = nI t := (hrs_ap _ _ _ _ _ _ _ _ (by decide) _).trans hl'
        generalize hrs A r1 (T t) z n p 1 = A2 at hq2 hne2 hn2 hp2 hl2 ⊢
        refine W_iinc (v := 1) d_108_84 rfl (by decide) rfl ?_
        rw [show ((nI i + 1 : Int32)) = nI (i + 1) from nI_add i 1]
        refine W_goto (tgt := 37) d_108_87 (by decide) ?_
        have e := hq.fo (K s 0)
        rw [e] at h58
        have h9 := ih (i + 1) A2 l G' (by omega) ⟨hne2, hq2, hn2, hp2, hl2⟩
        rw [hrf, if_pos (show (fun i => fo (K s 0) (gon (A0 r0) (T t) z n p i 2) n 0) i = -1 from h58), if_pos h67] at h9
        exact h9
theorem p_108 {d : Nat} {g : mG} {N : Nat} {A T K : Nat → tR} {B : tR} {E : Nat → Int32} {l : Int64} {G : tR} {Qm : Nat → mC} {r0 r1 : Nat} (e0 : r0 = 0) (e1 : r1 = 1) {z : Nat → Nat} {n p t : Nat} (hX : CX (A r0) T z n p t) {s : Nat} (hs : s < 4) (hr : rfv K n (nI s) = 0) {w : Int32} (hw : 0 ≤ w ∧ w ≤ 1) (hd : 9 ≤ d) : Wp d 108 0 (ment 108 [.ref 0, .int (nI s), .int w]) [] (N, H3 g (cc A T K B E l G) Qm) (fun v M' => v = some (.int (pk w (hrf (fun i => fo (K s 0) (gon (A r0) (T t) z n p i 2) n 0) 49))) ∧ ∃ A' l' G', M' = (N, H3 g (cc A' T K B E l' G') Qm) ∧ ∀ r, ¬ r = r1 → A' r = A r) := by
  have hn12 := hX.2.1
  show Wp _ 108 0 [.ref 0, .int (nI s), .int w, .null, .null, .null, .null] [] _ _
  refine W_aload_n d_108_0 rfl (by decide) ?_
  refine W_iload_n d_108_1 rfl ?_
  refine W_callV d_108_2 o_108 (Or.inl k_6_222) (by omega) (p_111 e0 e1 hX.1 (by omega)) rfl (mrecv_of rfl o_111.symm) rfl (Nat.le_of_ble_eq_true rfl) ?_
  refine W_istore_n d_108_5 rfl ?_
  refine W_iload_n d_108_6 rfl ?_
  refine W_if_eq (tgt := 12) d_108_7 (by decide) (fun h7 => ?_) (fun h7 => absurd hr h7)
  refine W_iload_n d_108_12 rfl ?_
  refine W_if_lt (tgt := 21) d_108_13 (by decide) (fun h13 => absurd h13 (Int32.not_lt.mpr hw.1)) (fun h13 => ?_)
  refine W_iload_n d_108_16 rfl ?_
  refine W_iconst d_108_17 (v := 1) (by decide) ?_
  refine W_icmp_le (tgt := 24) d_108_18 (by decide) (fun h18 => ?_) (fun h18 => absurd hw.2 h18)
  refine W_iconst d_108_24 (v := 0) (by decide) ?_
  refine W_istore d_108_25 rfl ?_
  refine W_iconst d_108_27 (v := (-1)) (by decide) ?_
  refine W_istore d_108_28 rfl ?_
  refine W_aload_n d_108_30 rfl (by decide) ?_
  refine W_callV d_108_31 o_108 (Or.inl k_6_176) (by omega) (x_122 e0 e1 hX.1 hn12 (by omega)) rfl (mrecv_of rfl o_122.symm) rfl (Nat.le_of_ble_eq_true rfl) ?_
  refine W_iconst d_108_34 (v := 0) (by decide) ?_
  refine W_istore d_108_35 rfl ?_
  refine lp_108 (A0 := A) e0 e1 hX hs hd (fun A2 l2 G2 hA2 => ?_) 49 0 _ _ _ (by omega) ⟨fun r hr => bkA_ne hr, bkA_eq (by omega) hX.2.1, (bkA_12 _ _ _ _ 0 (by decide)).trans hX.1, (bkA_12 _ _ _ _ 1 (by decide)).trans hX.2.2.1, (bkA_12 _ _ _ _ 4 (by decide)).trans hX.2.2.2.2.1⟩
  refine W_iload_n d_108_90 rfl ?_
  refine W_if_ne (tgt := 99) d_108_91 (by decide) (fun h91 => ?_) (fun h91 => ?_)
  · refine W_iload d_108_99 rfl ?_
    refine W_iret d_108_101 rt_108 rfl ?_
    exact ⟨congrArg (fun z => some (Value.int z)) (if_neg h91).symm, _, _, _, rfl, hA2⟩
  · refine W_iload d_108_94 rfl ?_
    refine W_goto (tgt := 101) d_108_96 (by decide) ?_
    refine W_iret d_108_101 rt_108 rfl ?_
    exact ⟨congrArg (fun z => some (Value.int z)) (if_pos h91).symm, _, _, _, rfl, hA2⟩
theorem p_108a {d : Nat} {g : mG} {N : Nat} {A T K : Nat → tR} {B : tR} {E : Nat → Int32} {l : Int64} {G : tR} {Qm : Nat → mC} {r0 r1 : Nat} (e0 : r0 = 0) (e1 : r1 = 1) {z : Nat → Nat} {n p t : Nat} (hX : CX (A r0) T z n p t) {v w : Int32} (hb : ¬ rfv K n v = 0) (hd : 4 ≤ d) : Ex d 108 [.ref 0, .int v, .int w] (N, H3 g (cc A T K B E l G) Qm) (some (.int (rfv K n v))) (N, H3 g (cc A T K B E l G) Qm) := by
  refine Ex.of ?_
  show Wp _ 108 0 [.ref 0, .int v, .int w, .null, .null, .null, .null] [] _ _
  refine W_aload_n d_108_0 rfl (by decide) ?_
  refine W_iload_n d_108_1 rfl ?_
  refine W_callV d_108_2 o_108 (Or.inl k_6_222) (by omega) (p_111 e0 e1 hX.1 (by omega)) rfl (mrecv_of rfl o_111.symm) rfl (Nat.le_of_ble_eq_true rfl) ?_
  refine W_istore_n d_108_5 rfl ?_
  refine W_iload_n d_108_6 rfl ?_
  refine W_if_eq (tgt := 12) d_108_7 (by decide) (fun h7 => absurd h7 hb) (fun h7 => ?_)
  refine W_iload_n d_108_10 rfl ?_
  refine W_iret d_108_11 rt_108 rfl ?_
  exact ⟨rfl, rfl⟩
theorem p_108b {d : Nat} {g : mG} {N : Nat} {A T K : Nat → tR} {B : tR} {E : Nat → Int32} {l : Int64} {G : tR} {Qm : Nat → mC} {r0 r1 : Nat} (e0 : r0 = 0) (e1 : r1 = 1) {z : Nat → Nat} {n p t : Nat} (hX : CX (A r0) T z n p t) {v w : Int32} (hr : rfv K n v = 0) (hb : ¬ (0 ≤ w ∧ w ≤ 1)) (hd : 4 ≤ d) : Ex d 108 [.ref 0, .int v, .int w] (N, H3 g (cc A T K B E l G) Qm) (some (.int (-7))) (N, H3 g (cc A T K B E l G) Qm) := by
  refine Ex.of ?_
  show Wp _ 108 0 [.ref 0, .int v, .int w, .null, .null, .null, .null] [] _ _
  refine W_aload_n d_108_0 rfl (by decide) ?_
  refine W_iload_n d_108_1 rfl ?_
  refine W_callV d_108_2 o_108 (Or.inl k_6_222) (by omega) (p_111 e0 e1 hX.1 (by omega)) rfl (mrecv_of rfl o_111.symm) rfl (Nat.le_of_ble_eq_true rfl) ?_
  refine W_istore_n d_108_5 rfl ?_
  refine W_iload_n d_108_6 rfl ?_
  refine W_if_eq (tgt := 12) d_108_7 (by decide) (fun h7 => ?_) (fun h7 => absurd hr h7)
  refine W_iload_n d_108_12 rfl ?_
  refine W_if_lt (tgt := 21) d_108_13 (by decide) (fun h13 => ?_) (fun h13 => ?_)
  · refine W_bipush d_108_21 (v := (-7)) (by decide) ?_
    refine W_iret d_108_23 rt_108 rfl ?_
    exact ⟨rfl, rfl⟩
  · refine W_iload_n d_108_16 rfl ?_
    refine W_iconst d_108_17 (v := 1) (by decide) ?_
    refine W_icmp_le (tgt := 24) d_108_18 (by decide) (fun h18 => ?_) (fun h18 => ?_)
    · exact (hb ⟨Int32.not_lt.mp h13, h18⟩).elim
    · refine W_bipush d_108_21 (v := (-7)) (by decide) ?_
      refine W_iret d_108_23 rt_108 rfl ?_
      exact ⟨rfl, rfl⟩
theorem lp_109 {d : Nat} {g : mG} {N : Nat} {A0 T K : Nat → tR} {B : tR} {E : Nat → Int32} {Qm : Nat → mC} {r0 r1 : Nat} (e0 : r0 = 0) (e1 : r1 = 1) {z : Nat → Nat} {n p t : Nat} (hX : CX (A0 r0) T z n p t) {m : Nat} (hm : m ≤ 48) {tc : Nat} (htc : E 1 = nI tc) (ht6 : tc ≤ 6) {zs : Nat → Nat → Nat} (hLs : ∀ i, i < tc → Lw (T i) (zs i)) {s : Nat} (hs : s < 4) {rv : Int32} (hd : 9 ≤ d) {Q : Option Value → mM → Prop} (kk : ∀ (A : Nat → tR) (l : Int64) (G : tR), (∀ r, ¬ r = r1 → A r = A0 r) → Wp d 109 87 [.ref 0, .int (nI s), .int (nI m), .int rv, .int (btf (fun i => fo (K s 0) (gon (lwr (A0 r0) i) (T i) (zs i) n p m 2) n 0) tc), .int (nI tc)] [] (N, H3 g (cc A T K B E l G) Qm) Q) : ∀ (k i : Nat) (A : Nat → tR) (l : Int64) (G : tR), i + k = tc → (∀ r, ¬ r = r1 → A r = A0 r) → Wp d 109 28 [.ref 0, .int (nI s), .int (nI m), .int rv, .int (btf (fun i => fo (K s 0) (gon (lwr (A0 r0) i) (T i) (zs i) n p m 2) n 0) i), .int (nI i)] [] (N, H3 g (cc A T K B E l G) Qm) Q := by
  intro k
  induction k with
  | zero =>
    intro i A l G  hi hA
    have ei : i = tc := by omega
    refine W_iload d_109_28 rfl ?_
    refine W_aload_n d_109_30 rfl (by decide) ?_
    refine W_getf d_109_31 o_109 k_6_73 rfl rfl ?_
    rw [htc]
    refine W_icmp_ge (tgt := 87) d_109_34 (by decide) (fun h34 => ?_) (fun h34 => absurd (nI_le (a := tc) (b := i) (by omega) (by omega)) h34)
    rw [ei]
    exact kk _ _ _  hA
  | succ k ih =>
    intro i A l G  hi hA
    obtain ⟨hn, hn12, hp, hp6, hlw, ht, hL⟩ := hX
    have hr0 := hA r0 (by omega)
    have hn' : A r0 12 0 = nI n := by rw [hr0]; exact hn
    have hp' : A r0 12 1 = nI p := by rw [hr0]; exact hp
    have hlw' : A r0 12 4 = nI t := by rw [hr0]; exact hlw
    refine W_iload d_109_28 rfl ?_
    refine W_aload_n d_109_30 rfl (by decide) ?_
    refine W_getf d_109_31 o_109 k_6_73 rfl rfl ?_
    rw [htc]
    refine W_icmp_ge (tgt := 87) d_109_34 (by decide) (fun h34 => absurd h34 (nI_ge (a := i) (b := tc) (by omega) (by omega))) (fun h34 => ?_)
    refine W_aload_n d_109_37 rfl (by decide) ?_
    refine W_callV d_109_38 o_109 (Or.inl k_6_176) (by omega) (x_122 e0 e1 hn' hn12 (by omega)) rfl (mrecv_of rfl o_122.symm) rfl (Nat.le_of_ble_eq_true rfl) ?_
    refine W_aload_n d_109_41 rfl (by decide) ?_
    refine W_getf d_109_42 o_109 k_6_16 rfl rfl ?_
    show Wp _ _ _ _ (Value.ref (rb 1) :: _) _ _
    rw [show rb 1 = rb r1 from by rw [e1]]
    have hq1 : r1 < 3 := by omega
    refine W_iload d_109_45 rfl ?_
    refine W_putf d_109_47 o_109 k_6_89 (h_road (by assumption)) (Nat.le_of_ble_eq_true rfl) rfl (ms_rd8 (by assumption)) ?_
    refine W_aload_n d_109_50 rfl (by decide) ?_
    refine W_iload_n d_109_51 rfl ?_
    refine W_callVG d_109_52 o_109 (Or.inl k_6_179) (by omega) (x_123 e0 e1 (t := i) (z := zs i) (by omega) (hLs i (by omega)) (show (u3 (bkA A r1 r0 n) r1 12 4 (nI i)) r1 12 0 = _ by rw [u3_ap, if_neg (by omega), bkA_12 _ _ _ _ 0 (by decide)]; exact hn') hn12 (show (u3 (bkA A r1 r0 n) r1 12 4 (nI i)) r1 12 1 = _ by rw [u3_ap, if_neg (by omega), bkA_12 _ _ _ _ 1 (by decide)]; exact hp') hp6 (show (u3 (bkA A r1 r0 n) r1 12 4 (nI i)) r1 12 4 = _ by rw [u3_ap, if_pos ⟨rfl, rfl, rfl⟩]) (by omega) (by omega)) rfl (mrecv_of rfl o_123.symm) rfl (Nat.le_of_ble_eq_true rfl) (fun G' => ?_)
    have hq := gon_of (Lr := T i) (z := zs i) (p := p) hn12 hp6 (lwr_eq (t := i) (bkA_eq (A := A) (r := r1) (r2 := r0) (n := n) (by omega) hn12)) (show (u3 (bkA A r1 r0 n) r1 12 4 (nI i)) r1 12 0 = _ by rw [u3_ap, if_neg (by omega), bkA_12 _ _ _ _ 0 (by decide)]; exact hn') m
    rw [hr0] at hq
    have hne : ∀ r, ¬ r = r1 → hrs (u3 (bkA A r1 r0 n) r1 12 4 (nI i)) r1 (T i) (zs i) n p m r = A0 r := fun r hr => (hrs_ne hr m).trans ((u3_ne _ hr _ _ _).trans ((bkA_ne hr).trans (hA r hr)))
    have hn1 : hrs (u3 (bkA A r1 r0 n) r1 12 4 (nI i)) r1 (T i) (zs i) n p m r1 12 0 = nI n := (hrs_ap _ _ _ _ _ _ _ _ (by decide) _).trans (show (u3 (bkA A r1 r0 n) r1 12 4 (nI i)) r1 12 0 = _ by rw [u3_ap, if_neg (by omega), bkA_12 _ _ _ _ 0 (by decide)]; exact hn')
    generalize hrs (u3 (bkA A r1 r0 n) r1 12 4 (nI i)) r1 (T i) (zs i) n p m = A2 at hq hne hn1 ⊢
    refine W_aload_n d_109_55 rfl (by decide) ?_
    refine W_getf d_109_56 o_109 k_6_16 rfl rfl ?_
    show Wp _ _ _ _ (Value.ref (rb 1) :: _) _ _
    rw [show rb 1 = rb r1 from by rw [e1]]
    have hq1 : r1 < 3 := by omega
    refine W_aload_n d_109_59 rfl (by decide) ?_
    refine W_getf d_109_60 o_109 k_6_37 rfl rfl ?_
    refine W_iload_n d_109_63 rfl ?_
    refine W_aald d_109_64 rfl (vp_in_nI (by omega) (by decide)) (sha_v (by omega)) ?_
    refine W_callV d_109_65 o_109 (Or.inl k_6_225) (by omega) (x_76 (show r1 < 3 by omega) hs hn1 hn12) rfl (mrecv_of (h_road (by assumption)) o_76.symm) rfl (Nat.le_of_ble_eq_true rfl) ?_
    refine W_iconst d_109_68 (v := (-1)) (by decide) ?_
    refine W_icmp_ne (tgt := 81) d_109_69 (by decide) (fun h69 => ?_) (fun h69 => ?_)
    · refine W_iinc (v := 1) d_109_81 rfl (by decide) rfl ?_
      rw [show ((nI i + 1 : Int32)) = nI (i + 1) from nI_add i 1]
      refine W_goto (tgt := 28) d_109_84 (by decide) ?_
      have e := hq.fo (K s 0)
      rw [e] at h69
      have h9 := ih (i + 1) A2 l G' (by omega) hne
      rw [btf, if_neg (show ¬ (fun i => fo (K s 0) (gon (lwr (A0 r0) i) (T i) (zs i) n p m 2) n 0) i = -1 from h69)] at h9
      exact h9
    · refine W_iload d_109_72 rfl ?_
      refine W_iconst d_109_74 (v := 1) (by decide) ?_
      refine W_iload d_109_75 rfl ?_
      refine W_ishl d_109_77 ?_
      refine W_ior d_109_78 ?_
      refine W_istore d_109_79 rfl ?_
      refine W_iinc (v := 1) d_109_81 rfl (by decide) rfl ?_
      rw [show ((nI i + 1 : Int32)) = nI (i + 1) from nI_add i 1]
      refine W_goto (tgt := 28) d_109_84 (by decide) ?_
      have e := hq.fo (K s 0)
      rw [e] at h69
      have h9 := ih (i + 1) A2 l G' (by omega) hne
      rw [btf, if_pos (show (fun i => fo (K s 0) (gon (lwr (A0 r0) i) (T i) (zs i) n p m 2) n 0) i = -1 from h69)] at h9
      exact h9
theorem p_109 {d : Nat} {g : mG} {N : Nat} {A T K : Nat → tR} {B : tR} {E : Nat → Int32} {l : Int64} {G : tR} {Qm : Nat → mC} {r0 r1 : Nat} (e0 : r0 = 0) (e1 : r1 = 1) {z : Nat → Nat} {n p t : Nat} (hX : CX (A r0) T z n p t) {m : Nat} (hm : m ≤ 48) {tc : Nat} (htc : E 1 = nI tc) (ht6 : tc ≤ 6) {zs : Nat → Nat → Nat} (hLs : ∀ i, i < tc → Lw (T i) (zs i)) {s : Nat} (hs : s < 4) (hr : rfv K n (nI s) = 0) (hd : 9 ≤ d) : Wp d 109 0 (ment 109 [.ref 0, .int (nI s), .int (nI m)]) [] (N, H3 g (cc A T K B E l G) Qm) (fun v M' => v = some (.int (btf (fun i => fo (K s 0) (gon (lwr (A r0) i) (T i) (zs i) n p m 2) n 0) tc)) ∧ ∃ A' l' G', M' = (N, H3 g (cc A' T K B E l' G') Qm) ∧ ∀ r, ¬ r = r1 → A' r = A r) := by
  show Wp _ 109 0 [.ref 0, .int (nI s), .int (nI m), .null, .null, .null] [] _ _
  refine W_aload_n d_109_0 rfl (by decide) ?_
  refine W_iload_n d_109_1 rfl ?_
  refine W_callV d_109_2 o_109 (Or.inl k_6_222) (by omega) (p_111 e0 e1 hX.1 (by omega)) rfl (mrecv_of rfl o_111.symm) rfl (Nat.le_of_ble_eq_true rfl) ?_
  refine W_istore_n d_109_5 rfl ?_
  refine W_iload_n d_109_6 rfl ?_
  refine W_if_eq (tgt := 12) d_109_7 (by decide) (fun h7 => ?_) (fun h7 => absurd hr h7)
  refine W_iload_n d_109_12 rfl ?_
  refine W_callS d_109_13 o_109 k_6_167 (by omega) (x_130 (by omega)) rfl (Nat.le_of_ble_eq_true rfl) ?_
  refine W_if_ne (tgt := 22) d_109_16 (by decide) (fun h16 => ?_) (fun h16 => absurd h16 (fun q => bI_f q ⟨nI_pos' (by omega), nI_le (a := m) (b := 48) hm (by decide)⟩))
  refine W_iconst d_109_22 (v := 0) (by decide) ?_
  refine W_istore d_109_23 rfl ?_
  refine W_iconst d_109_25 (v := 0) (by decide) ?_
  refine W_istore d_109_26 rfl ?_
  refine lp_109 (A0 := A) e0 e1 hX hm htc ht6 hLs hs hd (fun A2 l2 G2 hA2 => ?_) tc 0 _ _ _ (by omega) (fun _ _ => rfl)
  refine W_iload d_109_87 rfl ?_
  refine W_iret d_109_89 rt_109 rfl ?_
  exact ⟨rfl, _, _, _, rfl, hA2⟩
theorem p_109a {d : Nat} {g : mG} {N : Nat} {A T K : Nat → tR} {B : tR} {E : Nat → Int32} {l : Int64} {G : tR} {Qm : Nat → mC} {r0 r1 : Nat} (e0 : r0 = 0) (e1 : r1 = 1) {z : Nat → Nat} {n p t : Nat} (hX : CX (A r0) T z n p t) {v w : Int32} (hb : ¬ rfv K n v = 0) (hd : 4 ≤ d) : Ex d 109 [.ref 0, .int v, .int w] (N, H3 g (cc A T K B E l G) Qm) (some (.int (rfv K n v))) (N, H3 g (cc A T K B E l G) Qm) := by
  refine Ex.of ?_
  show Wp _ 109 0 [.ref 0, .int v, .int w, .null, .null, .null] [] _ _
  refine W_aload_n d_109_0 rfl (by decide) ?_
  refine W_iload_n d_109_1 rfl ?_
  refine W_callV d_109_2 o_109 (Or.inl k_6_222) (by omega) (p_111 e0 e1 hX.1 (by omega)) rfl (mrecv_of rfl o_111.symm) rfl (Nat.le_of_ble_eq_true rfl) ?_
  refine W_istore_n d_109_5 rfl ?_
  refine W_iload_n d_109_6 rfl ?_
  refine W_if_eq (tgt := 12) d_109_7 (by decide) (fun h7 => absurd h7 hb) (fun h7 => ?_)
  refine W_iload_n d_109_10 rfl ?_
  refine W_iret d_109_11 rt_109 rfl ?_
  exact ⟨rfl, rfl⟩
theorem p_109b {d : Nat} {g : mG} {N : Nat} {A T K : Nat → tR} {B : tR} {E : Nat → Int32} {l : Int64} {G : tR} {Qm : Nat → mC} {r0 r1 : Nat} (e0 : r0 = 0) (e1 : r1 = 1) {z : Nat → Nat} {n p t : Nat} (hX : CX (A r0) T z n p t) {v w : Int32} (hr : rfv K n v = 0) (hb : ¬ (0 ≤ w ∧ w ≤ 48)) (hd : 4 ≤ d) : Ex d 109 [.ref 0, .int v, .int w] (N, H3 g (cc A T K B E l G) Qm) (some (.int (-7))) (N, H3 g (cc A T K B E l G) Qm) := by
  refine Ex.of ?_
  show Wp _ 109 0 [.ref 0, .int v, .int w, .null, .null, .null] [] _ _
  refine W_aload_n d_109_0 rfl (by decide) ?_
  refine W_iload_n d_109_1 rfl ?_
  refine W_callV d_109_2 o_109 (Or.inl k_6_222) (by omega) (p_111 e0 e1 hX.1 (by omega)) rfl (mrecv_of rfl o_111.symm) rfl (Nat.le_of_ble_eq_true rfl) ?_
  refine W_istore_n d_109_5 rfl ?_
  refine W_iload_n d_109_6 rfl ?_
  refine W_if_eq (tgt := 12) d_109_7 (by decide) (fun h7 => ?_) (fun h7 => absurd hr h7)
  refine W_iload_n d_109_12 rfl ?_
  refine W_callS d_109_13 o_109 k_6_167 (by omega) (x_130 (by omega)) rfl (Nat.le_of_ble_eq_true rfl) ?_
  refine W_if_ne (tgt := 22) d_109_16 (by decide) (fun h16 => absurd (bI_ne.mpr hb) h16) (fun h16 => ?_)
  refine W_bipush d_109_19 (v := (-7)) (by decide) ?_
  refine W_iret d_109_21 rt_109 rfl ?_
  exact ⟨rfl, rfl⟩
