/-! THE CLASS: odds, ownersBy, feed (wip/whole/gen38.py) -/
def cdv (a b : Nat) : Nat → Nat
  | 0 => 1
  | d + 1 => if d = 0 then 1 else if a % (d + 1) = 0 ∧ b % (d + 1) = 0 then d + 1 else cdv a b d
def odc (f : Nat → Int32) : Nat → Nat
  | 0 => 0
  | i + 1 => if f i = 0 then odc f i + 1 else odc f i
theorem odc_le (f : Nat → Int32) : ∀ i, odc f i ≤ i
  | 0 => Nat.le_refl _
  | i + 1 => by
    have := odc_le f i
    simp only [odc]
    split <;> omega
theorem cdv_pos (a b : Nat) : ∀ d, 0 < cdv a b d ∧ cdv a b d ≤ max 1 d
  | 0 => by simp [cdv]
  | d + 1 => by
    have := cdv_pos a b d
    simp only [cdv]
    repeat' split
    all_goals omega
theorem lp_114 {d : Nat} {M : mM} {a b : Nat} (ha : a < 2 ^ 31) (hb : b < 2 ^ 31) : ∀ e D, D = e + 1 → D ≤ b → Wp d 114 2 [.int (nI a), .int (nI b), .int (nI D)] [] M (fun v' M' => v' = some (.int (nI (cdv a b D))) ∧ M' = M) := by
  intro e
  induction e with
  | zero =>
    intro D hD he
    refine W_iload_n d_114_2 rfl ?_
    refine W_iconst d_114_3 (v := 1) (by decide) ?_
    refine W_icmp_le (tgt := 27) d_114_4 (by decide) (fun h4 => ?_) (fun h4 => absurd (nI_le (a := D) (b := 1) (by omega) (by omega)) h4)
    refine W_iconst d_114_27 (v := 1) (by decide) ?_
    refine W_iret d_114_28 rt_114 rfl ?_
    subst hD
    exact ⟨rfl, rfl⟩
  | succ e ih =>
    intro D hD he
    refine W_iload_n d_114_2 rfl ?_
    refine W_iconst d_114_3 (v := 1) (by decide) ?_
    refine W_icmp_le (tgt := 27) d_114_4 (by decide) (fun h4 => absurd h4 (nI_ge (a := 1) (b := D) (by omega) (by omega))) (fun h4 => ?_)
    refine W_iload_n d_114_7 rfl ?_
    refine W_iload_n d_114_8 rfl ?_
    refine W_irem d_114_9 (fun q => absurd ((nI_eq (a := D) (b := 0) (by omega) (by decide)).mp q) (by omega)) ?_
    rw [show (nI a - nI a / nI D * nI D : Int32) = nI (a % D) from pk_rem (a := a) (d := D) (by omega) (by omega) (by omega)]
    have hma : a % D < D := Nat.mod_lt _ (by omega)
    refine W_if_ne (tgt := 21) d_114_10 (by decide) (fun h10 => ?_) (fun h10 => ?_)
    · have q10 : ¬ a % D = 0 := mt (nI_eq (a := a % D) (b := 0) (by omega) (by omega)).mpr h10
      refine W_iinc (v := (-1)) d_114_21 rfl (by decide) rfl ?_
      rw [show ((nI D + (-1) : Int32)) = nI (D - 1) from nI_m1 (by omega)]
      refine W_goto (tgt := 2) d_114_24 (by decide) ?_
      have h9 := ih (D - 1) (by omega) (by omega)
      rw [show cdv a b D = cdv a b (D - 1) from by subst hD; rw [cdv, if_neg (by omega), if_neg (fun q => q10 q.1)]; rfl]
      exact h9
    · have q10 : a % D = 0 := (nI_eq (a := a % D) (b := 0) (by omega) (by omega)).mp h10
      refine W_iload_n d_114_13 rfl ?_
      refine W_iload_n d_114_14 rfl ?_
      refine W_irem d_114_15 (fun q => absurd ((nI_eq (a := D) (b := 0) (by omega) (by decide)).mp q) (by omega)) ?_
      rw [show (nI b - nI b / nI D * nI D : Int32) = nI (b % D) from pk_rem (a := b) (d := D) (by omega) (by omega) (by omega)]
      have hmb : b % D < D := Nat.mod_lt _ (by omega)
      refine W_if_ne (tgt := 21) d_114_16 (by decide) (fun h16 => ?_) (fun h16 => ?_)
      · have q16 : ¬ b % D = 0 := mt (nI_eq (a := b % D) (b := 0) (by omega) (by omega)).mpr h16
        refine W_iinc (v := (-1)) d_114_21 rfl (by decide) rfl ?_
        rw [show ((nI D + (-1) : Int32)) = nI (D - 1) from nI_m1 (by omega)]
        refine W_goto (tgt := 2) d_114_24 (by decide) ?_
        have h9 := ih (D - 1) (by omega) (by omega)
        rw [show cdv a b D = cdv a b (D - 1) from by subst hD; rw [cdv, if_neg (by omega), if_neg (fun q => q16 q.2)]; rfl]
        exact h9
      · have q16 : b % D = 0 := (nI_eq (a := b % D) (b := 0) (by omega) (by omega)).mp h16
        refine W_iload_n d_114_19 rfl ?_
        refine W_iret d_114_20 rt_114 rfl ?_
        exact ⟨congrArg (fun z => some (Value.int (nI z))) (show D = cdv a b D by subst hD; rw [cdv, if_neg (by omega), if_pos ⟨by omega, by omega⟩]), rfl⟩
theorem p_114 {d : Nat} {M : mM} {a b : Nat} (ha : a < 2 ^ 31) (hb : b < 2 ^ 31) (h0 : 0 < b) : Ex d 114 [.int (nI a), .int (nI b)] M (some (.int (nI (cdv a b b)))) M := by
  refine Ex.of ?_
  show Wp _ 114 0 [.int (nI a), .int (nI b), .null] [] _ _
  refine W_iload_n d_114_0 rfl ?_
  refine W_istore_n d_114_1 rfl ?_
  exact lp_114 ha hb (b - 1) b (by omega) (Nat.le_refl _)
theorem lp_113 {d : Nat} {g : mG} {N : Nat} {A0 T K : Nat → tR} {B : tR} {E : Nat → Int32} {Qm : Nat → mC} {r0 r1 : Nat} (e0 : r0 = 0) (e1 : r1 = 1) {z : Nat → Nat} {n p t : Nat} (hX : CX (A0 r0) T z n p t) {m : Nat} (hm : m ≤ 48) {j : Nat} (hj : j < n) {mo be : Nat} (hmo : mo ≤ 99) (hbe : be ≤ 20) {sd hz pt : Int32} (hd : 9 ≤ d) {Q : Option Value → mM → Prop} (kk : ∀ (A : Nat → tR) (l : Int64) (G : tR), (∀ r, ¬ r = r1 → A r = A0 r) → Wp d 113 139 [.ref 0, .int sd, .int hz, .int (nI j), .int (nI mo), .int pt, .int (nI m), .int (nI be), .int (nI (odc (fun i => win (A0 r0) ((sd + nI i).toInt64 + 1) (T t) z n p (nI mo) m 8 j) be)), .int (nI be)] [] (N, H3 g (cc A T K B E l G) Qm) Q) : ∀ (k i : Nat) (A : Nat → tR) (l : Int64) (G : tR), i + k = be → (∀ r, ¬ r = r1 → A r = A0 r) → Wp d 113 96 [.ref 0, .int sd, .int hz, .int (nI j), .int (nI mo), .int pt, .int (nI m), .int (nI be), .int (nI (odc (fun i => win (A0 r0) ((sd + nI i).toInt64 + 1) (T t) z n p (nI mo) m 8 j) i)), .int (nI i)] [] (N, H3 g (cc A T K B E l G) Qm) Q := by
  intro k
  induction k with
  | zero =>
    intro i A l G  hi hA
    have ei : i = be := by omega
    refine W_iload d_113_96 rfl ?_
    refine W_iload d_113_98 rfl ?_
    refine W_icmp_ge (tgt := 139) d_113_100 (by decide) (fun h100 => ?_) (fun h100 => absurd (nI_le (a := be) (b := i) (by omega) (by omega)) h100)
    rw [ei]
    exact kk _ _ _  hA
  | succ k ih =>
    intro i A l G  hi hA
    obtain ⟨hn, hn12, hp, hp6, hlw, ht, hL⟩ := hX
    have hr0 := hA r0 (by omega)
    have hn' : A r0 12 0 = nI n := by rw [hr0]; exact hn
    have hp' : A r0 12 1 = nI p := by rw [hr0]; exact hp
    have hlw' : A r0 12 4 = nI t := by rw [hr0]; exact hlw
    have hj12 : j < 12 := by omega
    refine W_iload d_113_96 rfl ?_
    refine W_iload d_113_98 rfl ?_
    refine W_icmp_ge (tgt := 139) d_113_100 (by decide) (fun h100 => absurd h100 (nI_ge (a := i) (b := be) (by omega) (by omega))) (fun h100 => ?_)
    refine W_aload_n d_113_103 rfl (by decide) ?_
    refine W_iload_n d_113_104 rfl ?_
    refine W_iload d_113_105 rfl ?_
    refine W_iadd d_113_107 ?_
    refine W_iload d_113_108 rfl ?_
    refine W_iload d_113_110 rfl ?_
    refine W_callVG d_113_112 o_113 (Or.inl k_6_244) (by omega) (x_125 e0 e1 ht hL hn' hn12 hp' hp6 hlw' (m := m) (by omega) (sd := sd + nI i) (most := nI mo) (most1 (by omega)) (by omega)) rfl (mrecv_of rfl o_125.symm) rfl (Nat.le_of_ble_eq_true rfl) (fun G' => ?_)
    have hq := thw_eq (Lr := T t) (z := z) (A := A) (r0 := r0) (r1 := r1) (p := p) (by omega) hn12 hp6 hn' m (l := (sd + nI i).toInt64 + 1) (most := nI mo)
    rw [hr0] at hq
    have hne : ∀ r, ¬ r = r1 → (wns (bkA A r1 r0 n) r1 ((sd + nI i).toInt64 + 1) (T t) z n p (nI mo) m).1 r = A0 r := fun r hr => (thw_ne hr).trans (hA r hr)
    generalize (wns (bkA A r1 r0 n) r1 ((sd + nI i).toInt64 + 1) (T t) z n p (nI mo) m) = A2 at hq hne ⊢
    refine W_aload_n d_113_115 rfl (by decide) ?_
    refine W_getf d_113_116 o_113 k_6_16 rfl rfl ?_
    show Wp _ _ _ _ (Value.ref (rb 1) :: _) _ _
    rw [show rb 1 = rb r1 from by rw [e1]]
    have hq1 : r1 < 3 := by omega
    refine W_getf d_113_119 o_113 k_6_121 (h_road (by assumption)) rfl ?_
    refine W_iload_n d_113_122 rfl ?_
    refine W_aald d_113_123 (h_owners (by assumption)) (vp_in_nI (by omega) (by decide)) (owa_v (by omega)) ?_
    refine W_getf d_113_124 o_113 k_6_188 (h_owner (by assumption) (by assumption)) rfl ?_
    refine W_if_ne (tgt := 133) d_113_127 (by decide) (fun h127 => ?_) (fun h127 => ?_)
    · refine W_iinc (v := 1) d_113_133 rfl (by decide) rfl ?_
      rw [show ((nI i + 1 : Int32)) = nI (i + 1) from nI_add i 1]
      refine W_goto (tgt := 96) d_113_136 (by decide) ?_
      have e8 := hq.lo (a := 8) (b := j) (by decide) hj
      rw [e8] at h127
      have h9 := ih (i + 1) A2.1 A2.2 G' (by omega) hne
      rw [odc, if_neg (show ¬ (fun i => win (A0 r0) ((sd + nI i).toInt64 + 1) (T t) z n p (nI mo) m 8 j) i = 0 from h127)] at h9
      exact h9
    · refine W_iinc (v := 1) d_113_130 rfl (by decide) rfl ?_
      rw [show ((nI (odc (fun i => win (A0 r0) ((sd + nI i).toInt64 + 1) (T t) z n p (nI mo) m 8 j) i) + 1 : Int32)) = nI ((odc (fun i => win (A0 r0) ((sd + nI i).toInt64 + 1) (T t) z n p (nI mo) m 8 j) i) + 1) from nI_add (odc (fun i => win (A0 r0) ((sd + nI i).toInt64 + 1) (T t) z n p (nI mo) m 8 j) i) 1]
      refine W_iinc (v := 1) d_113_133 rfl (by decide) rfl ?_
      rw [show ((nI i + 1 : Int32)) = nI (i + 1) from nI_add i 1]
      refine W_goto (tgt := 96) d_113_136 (by decide) ?_
      have e8 := hq.lo (a := 8) (b := j) (by decide) hj
      rw [e8] at h127
      have h9 := ih (i + 1) A2.1 A2.2 G' (by omega) hne
      rw [odc, if_pos (show (fun i => win (A0 r0) ((sd + nI i).toInt64 + 1) (T t) z n p (nI mo) m 8 j) i = 0 from h127)] at h9
      exact h9
theorem p_113 {d : Nat} {g : mG} {N : Nat} {A T K : Nat → tR} {B : tR} {E : Nat → Int32} {l : Int64} {G : tR} {Qm : Nat → mC} {r0 r1 : Nat} (e0 : r0 = 0) (e1 : r1 = 1) {z : Nat → Nat} {n p t : Nat} (hX : CX (A r0) T z n p t) {sd : Int32} (hsd : 0 ≤ sd ∧ sd ≤ 99999) {hz : Nat} (hz31 : hz < 2 ^ 31) (hm : hz / 100 ≤ 48) (hs1 : 1 ≤ hz % 100) (hs2 : hz % 100 ≤ 20) {j : Nat} (hj : j < n) {mo : Nat} (hmo : mo ≤ 99) {pt : Int32} (hpt : 0 ≤ pt ∧ pt ≤ 1) (hd : 9 ≤ d) : Wp d 113 0 (ment 113 [.ref 0, .int sd, .int (nI hz), .int (nI j), .int (nI mo), .int pt]) [] (N, H3 g (cc A T K B E l G) Qm) (fun v M' => v = some (.long (if pt = 0 then (nI (odc (fun i => win (A r0) ((sd + nI i).toInt64 + 1) (T t) z n p (nI mo) (hz / 100) 8 j) (hz % 100)) / nI (cdv (odc (fun i => win (A r0) ((sd + nI i).toInt64 + 1) (T t) z n p (nI mo) (hz / 100) 8 j) (hz % 100)) (hz % 100) (hz % 100))).toInt64 else (nI (hz % 100) / nI (cdv (odc (fun i => win (A r0) ((sd + nI i).toInt64 + 1) (T t) z n p (nI mo) (hz / 100) 8 j) (hz % 100)) (hz % 100) (hz % 100))).toInt64)) ∧ ∃ A' l' G', M' = (N, H3 g (cc A' T K B E l' G') Qm) ∧ ∀ r, ¬ r = r1 → A' r = A r) := by
  have hn12 := hX.2.1
  show Wp _ 113 0 [.ref 0, .int sd, .int (nI hz), .int (nI j), .int (nI mo), .int pt, .null, .null, .null, .null] [] _ _
  refine W_iload_n d_113_0 rfl ?_
  refine W_ldcI d_113_1 o_113 k_6_243 (v := 99999) (by decide) ?_
  refine W_callS d_113_3 o_113 k_6_95 (by omega) x_126 rfl (Nat.le_of_ble_eq_true rfl) ?_
  refine W_if_eq (tgt := 13) d_113_6 (by decide) (fun h6 => absurd h6 (fun q => bI_f q hsd)) (fun h6 => ?_)
  refine W_iload_n d_113_9 rfl ?_
  refine W_if_ge (tgt := 17) d_113_10 (by decide) (fun h10 => ?_) (fun h10 => absurd (nI_le (a := 0) (b := hz) (by omega) (by omega)) h10)
  refine W_iload_n d_113_17 rfl ?_
  refine W_bipush d_113_18 (v := 100) (by decide) ?_
  refine W_idiv d_113_20 (by decide) ?_
  rw [show ((nI hz / 100 : Int32)) = nI (hz / 100) from pk_div (a := hz) (d := 100) (by omega) (by decide) (by decide)]
  refine W_istore d_113_21 rfl ?_
  refine W_iload_n d_113_23 rfl ?_
  refine W_bipush d_113_24 (v := 100) (by decide) ?_
  refine W_irem d_113_26 (by decide) ?_
  rw [show ((nI hz - nI hz / 100 * 100 : Int32)) = nI (hz % 100) from pk_rem (a := hz) (d := 100) (by omega) (by decide) (by decide)]
  refine W_istore d_113_27 rfl ?_
  refine W_iload d_113_29 rfl ?_
  refine W_callS d_113_31 o_113 k_6_167 (by omega) (x_130 (by omega)) rfl (Nat.le_of_ble_eq_true rfl) ?_
  refine W_if_eq (tgt := 61) d_113_34 (by decide) (fun h34 => absurd h34 (fun q => bI_f q ⟨nI_pos' (by omega), nI_le (a := hz / 100) (b := 48) hm (by decide)⟩)) (fun h34 => ?_)
  refine W_iload d_113_37 rfl ?_
  refine W_iconst d_113_39 (v := 1) (by decide) ?_
  refine W_icmp_lt (tgt := 61) d_113_40 (by decide) (fun h40 => absurd h40 (nI_nlt (a := hz % 100) (b := 1) (by omega) (by omega))) (fun h40 => ?_)
  refine W_iload d_113_43 rfl ?_
  refine W_bipush d_113_45 (v := 20) (by decide) ?_
  refine W_icmp_gt (tgt := 61) d_113_47 (by decide) (fun h47 => absurd h47 (nI_nlt (a := 20) (b := hz % 100) (by omega) (by omega))) (fun h47 => ?_)
  refine W_aload_n d_113_50 rfl (by decide) ?_
  refine W_getf d_113_51 o_113 k_6_10 rfl rfl ?_
  show Wp _ _ _ _ (Value.ref (rb 0) :: _) _ _
  rw [show rb 0 = rb r0 from by rw [e0]]
  have hq0 : r0 < 3 := by omega
  refine W_iload_n d_113_54 rfl ?_
  refine W_callV d_113_55 o_113 (Or.inl k_6_103) (by omega) (x_56 (show r0 < 3 by omega)) rfl (mrecv_of (h_road (by assumption)) o_56.symm) rfl (Nat.le_of_ble_eq_true rfl) ?_
  refine W_if_ne (tgt := 65) d_113_58 (by decide) (fun h58 => ?_) (fun h58 => absurd h58 (fun q => bI_f q ⟨nI_pos' (by omega), by rw [hX.1]; exact nI_lt hj (by omega)⟩))
  refine W_iload d_113_65 rfl ?_
  refine W_bipush d_113_67 (v := 99) (by decide) ?_
  refine W_callS d_113_69 o_113 k_6_95 (by omega) x_126 rfl (Nat.le_of_ble_eq_true rfl) ?_
  refine W_if_eq (tgt := 86) d_113_72 (by decide) (fun h72 => absurd h72 (fun q => bI_f q ⟨nI_pos' (by omega), nI_le (a := mo) (b := 99) hmo (by decide)⟩)) (fun h72 => ?_)
  refine W_iload d_113_75 rfl ?_
  refine W_if_lt (tgt := 86) d_113_77 (by decide) (fun h77 => absurd h77 (Int32.not_lt.mpr hpt.1)) (fun h77 => ?_)
  refine W_iload d_113_80 rfl ?_
  refine W_iconst d_113_82 (v := 1) (by decide) ?_
  refine W_icmp_le (tgt := 90) d_113_83 (by decide) (fun h83 => ?_) (fun h83 => absurd hpt.2 h83)
  refine W_iconst d_113_90 (v := 0) (by decide) ?_
  refine W_istore d_113_91 rfl ?_
  refine W_iconst d_113_93 (v := 0) (by decide) ?_
  refine W_istore d_113_94 rfl ?_
  refine lp_113 (A0 := A) (m := hz / 100) (be := hz % 100) e0 e1 hX hm hj hmo (by omega) hd (fun A2 l2 G2 hA2 => ?_) (hz % 100) 0 _ _ _ (by omega) (fun _ _ => rfl)
  have hle := odc_le (fun i => win (A r0) ((sd + nI i).toInt64 + 1) (T t) z n p (nI mo) (hz / 100) 8 j) (hz % 100)
  refine W_iload d_113_139 rfl ?_
  refine W_if_ne (tgt := 149) d_113_141 (by decide) (fun h141 => ?_) (fun h141 => ?_)
  · refine W_iload d_113_149 rfl ?_
    refine W_iload d_113_151 rfl ?_
    refine W_iload d_113_153 rfl ?_
    refine W_callS d_113_155 o_113 k_6_250 (by omega) (p_114 (by omega) (by omega) (by omega)) rfl (Nat.le_of_ble_eq_true rfl) ?_
    refine W_idiv d_113_158 (fun q => absurd ((nI_eq (a := cdv (odc (fun i => win (A r0) ((sd + nI i).toInt64 + 1) (T t) z n p (nI mo) (hz / 100) 8 j) (hz % 100)) (hz % 100) (hz % 100)) (b := 0) (by have := cdv_pos (odc (fun i => win (A r0) ((sd + nI i).toInt64 + 1) (T t) z n p (nI mo) (hz / 100) 8 j) (hz % 100)) (hz % 100) (hz % 100); omega) (by decide)).mp q) (by have := cdv_pos (odc (fun i => win (A r0) ((sd + nI i).toInt64 + 1) (T t) z n p (nI mo) (hz / 100) 8 j) (hz % 100)) (hz % 100) (hz % 100); omega)) ?_
    refine W_i2l d_113_159 ?_
    refine W_lret d_113_160 rt_113 ?_
    exact ⟨congrArg (fun z => some (Value.long z)) (if_neg h141).symm, _, _, _, rfl, hA2⟩
  · refine W_iload d_113_144 rfl ?_
    refine W_goto (tgt := 151) d_113_146 (by decide) ?_
    refine W_iload d_113_151 rfl ?_
    refine W_iload d_113_153 rfl ?_
    refine W_callS d_113_155 o_113 k_6_250 (by omega) (p_114 (by omega) (by omega) (by omega)) rfl (Nat.le_of_ble_eq_true rfl) ?_
    refine W_idiv d_113_158 (fun q => absurd ((nI_eq (a := cdv (odc (fun i => win (A r0) ((sd + nI i).toInt64 + 1) (T t) z n p (nI mo) (hz / 100) 8 j) (hz % 100)) (hz % 100) (hz % 100)) (b := 0) (by have := cdv_pos (odc (fun i => win (A r0) ((sd + nI i).toInt64 + 1) (T t) z n p (nI mo) (hz / 100) 8 j) (hz % 100)) (hz % 100) (hz % 100); omega) (by decide)).mp q) (by have := cdv_pos (odc (fun i => win (A r0) ((sd + nI i).toInt64 + 1) (T t) z n p (nI mo) (hz / 100) 8 j) (hz % 100)) (hz % 100) (hz % 100); omega)) ?_
    refine W_i2l d_113_159 ?_
    refine W_lret d_113_160 rt_113 ?_
    exact ⟨congrArg (fun z => some (Value.long z)) (if_pos h141).symm, _, _, _, rfl, hA2⟩
theorem p_113a {d : Nat} {g : mG} {N : Nat} {A T K : Nat → tR} {B : tR} {E : Nat → Int32} {l : Int64} {G : tR} {Qm : Nat → mC} {r0 r1 : Nat} (e0 : r0 = 0) (e1 : r1 = 1) {v hz w u pt : Int32} (hb : ¬ ((0 ≤ v ∧ v ≤ 99999) ∧ 0 ≤ hz ∧ (0 ≤ hz / 100 ∧ hz / 100 ≤ 48) ∧ (1 ≤ i_mod hz 100 ∧ i_mod hz 100 ≤ 20) ∧ (0 ≤ w ∧ w < A r0 12 0) ∧ (0 ≤ u ∧ u ≤ 99) ∧ 0 ≤ pt ∧ pt ≤ 1)) (hd : 4 ≤ d) : Ex d 113 [.ref 0, .int v, .int hz, .int w, .int u, .int pt] (N, H3 g (cc A T K B E l G) Qm) (some (.long (-4611686018427387904))) (N, H3 g (cc A T K B E l G) Qm) := by
  refine Ex.of ?_
  show Wp _ 113 0 [.ref 0, .int v, .int hz, .int w, .int u, .int pt, .null, .null, .null, .null] [] _ _
  refine W_iload_n d_113_0 rfl ?_
  refine W_ldcI d_113_1 o_113 k_6_243 (v := 99999) (by decide) ?_
  refine W_callS d_113_3 o_113 k_6_95 (by omega) x_126 rfl (Nat.le_of_ble_eq_true rfl) ?_
  refine W_if_eq (tgt := 13) d_113_6 (by decide) (fun h6 => ?_) (fun h6 => ?_)
  · refine W_ldc2 d_113_13 o_113 k_6_248 (v := (-4611686018427387904)) (by decide) ?_
    refine W_lret d_113_16 rt_113 ?_
    exact ⟨rfl, rfl⟩
  · refine W_iload_n d_113_9 rfl ?_
    refine W_if_ge (tgt := 17) d_113_10 (by decide) (fun h10 => ?_) (fun h10 => ?_)
    · refine W_iload_n d_113_17 rfl ?_
      refine W_bipush d_113_18 (v := 100) (by decide) ?_
      refine W_idiv d_113_20 (by decide) ?_
      refine W_istore d_113_21 rfl ?_
      refine W_iload_n d_113_23 rfl ?_
      refine W_bipush d_113_24 (v := 100) (by decide) ?_
      refine W_irem d_113_26 (by decide) ?_
      refine W_istore d_113_27 rfl ?_
      refine W_iload d_113_29 rfl ?_
      refine W_callS d_113_31 o_113 k_6_167 (by omega) (x_130 (by omega)) rfl (Nat.le_of_ble_eq_true rfl) ?_
      refine W_if_eq (tgt := 61) d_113_34 (by decide) (fun h34 => ?_) (fun h34 => ?_)
      · refine W_ldc2 d_113_61 o_113 k_6_248 (v := (-4611686018427387904)) (by decide) ?_
        refine W_lret d_113_64 rt_113 ?_
        exact ⟨rfl, rfl⟩
      · refine W_iload d_113_37 rfl ?_
        refine W_iconst d_113_39 (v := 1) (by decide) ?_
        refine W_icmp_lt (tgt := 61) d_113_40 (by decide) (fun h40 => ?_) (fun h40 => ?_)
        · refine W_ldc2 d_113_61 o_113 k_6_248 (v := (-4611686018427387904)) (by decide) ?_
          refine W_lret d_113_64 rt_113 ?_
          exact ⟨rfl, rfl⟩
        · refine W_iload d_113_43 rfl ?_
          refine W_bipush d_113_45 (v := 20) (by decide) ?_
          refine W_icmp_gt (tgt := 61) d_113_47 (by decide) (fun h47 => ?_) (fun h47 => ?_)
          · refine W_ldc2 d_113_61 o_113 k_6_248 (v := (-4611686018427387904)) (by decide) ?_
            refine W_lret d_113_64 rt_113 ?_
            exact ⟨rfl, rfl⟩
          · refine W_aload_n d_113_50 rfl (by decide) ?_
            refine W_getf d_113_51 o_113 k_6_10 rfl rfl ?_
            show Wp _ _ _ _ (Value.ref (rb 0) :: _) _ _
            rw [show rb 0 = rb r0 from by rw [e0]]
            have hq0 : r0 < 3 := by omega
            refine W_iload_n d_113_54 rfl ?_
            refine W_callV d_113_55 o_113 (Or.inl k_6_103) (by omega) (x_56 (show r0 < 3 by omega)) rfl (mrecv_of (h_road (by assumption)) o_56.symm) rfl (Nat.le_of_ble_eq_true rfl) ?_
            refine W_if_ne (tgt := 65) d_113_58 (by decide) (fun h58 => ?_) (fun h58 => ?_)
            · refine W_iload d_113_65 rfl ?_
              refine W_bipush d_113_67 (v := 99) (by decide) ?_
              refine W_callS d_113_69 o_113 k_6_95 (by omega) x_126 rfl (Nat.le_of_ble_eq_true rfl) ?_
              refine W_if_eq (tgt := 86) d_113_72 (by decide) (fun h72 => ?_) (fun h72 => ?_)
              · refine W_ldc2 d_113_86 o_113 k_6_248 (v := (-4611686018427387904)) (by decide) ?_
                refine W_lret d_113_89 rt_113 ?_
                exact ⟨rfl, rfl⟩
              · refine W_iload d_113_75 rfl ?_
                refine W_if_lt (tgt := 86) d_113_77 (by decide) (fun h77 => ?_) (fun h77 => ?_)
                · refine W_ldc2 d_113_86 o_113 k_6_248 (v := (-4611686018427387904)) (by decide) ?_
                  refine W_lret d_113_89 rt_113 ?_
                  exact ⟨rfl, rfl⟩
                · refine W_iload d_113_80 rfl ?_
                  refine W_iconst d_113_82 (v := 1) (by decide) ?_
                  refine W_icmp_le (tgt := 90) d_113_83 (by decide) (fun h83 => ?_) (fun h83 => ?_)
                  · exact (hb ⟨bI_t h6, h10, bI_t h34, ⟨Int32.not_lt.mp h40, Int32.not_lt.mp h47⟩, bI_t h58, bI_t h72, Int32.not_lt.mp h77, h83⟩).elim
                  · refine W_ldc2 d_113_86 o_113 k_6_248 (v := (-4611686018427387904)) (by decide) ?_
                    refine W_lret d_113_89 rt_113 ?_
                    exact ⟨rfl, rfl⟩
            · refine W_ldc2 d_113_61 o_113 k_6_248 (v := (-4611686018427387904)) (by decide) ?_
              refine W_lret d_113_64 rt_113 ?_
              exact ⟨rfl, rfl⟩
    · refine W_ldc2 d_113_13 o_113 k_6_248 (v := (-4611686018427387904)) (by decide) ?_
      refine W_lret d_113_16 rt_113 ?_
      exact ⟨rfl, rfl⟩
def okO (km a : Int32) : Prop := (0 ≤ km ∧ km ≤ 59) ∧ (0 ≤ a ∧ a ≤ 23)
def ob1 (A : Nat → tR) (r n : Nat) (km a : Int32) : (Nat → tR) × Nat := if ((0 ≤ km ∧ km ≤ 59) ∧ (0 ≤ a ∧ a ≤ 23)) ∧ n < 12 then (u3 (ow0 A r n (km / 10) (i_mod km 10) a) r 12 0 (nI n + 1), n + 1) else (A, n)
def obv (n : Nat) (km a : Int32) : Int32 := if ¬ ((0 ≤ km ∧ km ≤ 59) ∧ (0 ≤ a ∧ a ≤ 23)) then -2 else if n < 12 then nI n else -4
theorem p_90 {d : Nat} {g : mG} {N : Nat} {A T K : Nat → tR} {B : tR} {E : Nat → Int32} {l : Int64} {G : tR} {Qm : Nat → mC} {r0 r1 : Nat} (e0 : r0 = 0) (e1 : r1 = 1) {n : Nat} (hn : A r0 12 0 = nI n) (hn12 : n ≤ 12) {km a : Int32} (hd : 3 ≤ d) : Ex d 90 [.ref 0, .int km, .int a] (N, H3 g (cc A T K B E l G) Qm) (some (.int (obv n km a))) (N, H3 g (cc (ob1 A r0 n km a).1 T K B E l G) Qm) := by
  unfold obv ob1
  by_cases hb : (0 ≤ km ∧ km ≤ 59) ∧ (0 ≤ a ∧ a ≤ 23)
  · rw [if_neg (fun q => q hb)]
    by_cases h12 : n < 12
    · rw [if_pos h12, if_pos ⟨hb, h12⟩]
      exact x_90 e0 e1 hb hn h12 (by omega)
    · rw [if_neg h12, if_neg (fun q => h12 q.2)]
      have e12 : n = 12 := by omega
      subst e12
      exact x_90f e0 e1 hb hn (by omega)
  · rw [if_pos hb, if_neg (fun q => hb q.1)]
    exact x_90b e0 e1 hb (by omega)
theorem obv_ge {n : Nat} (hn12 : n ≤ 12) {A : Nat → tR} {r : Nat} {km a : Int32} : (0 ≤ obv n km a ↔ n < (ob1 A r n km a).2) := by
  unfold obv ob1
  by_cases hb : (0 ≤ km ∧ km ≤ 59) ∧ (0 ≤ a ∧ a ≤ 23)
  · rw [if_neg (fun q => q hb)]
    by_cases h12 : n < 12
    · rw [if_pos h12, if_pos ⟨hb, h12⟩]
      exact ⟨fun _ => Nat.lt_succ_self _, fun _ => nI_pos' (by omega)⟩
    · rw [if_neg h12, if_neg (fun q => h12 q.2)]
      exact ⟨fun q => absurd q (by decide), fun q => absurd q (Nat.lt_irrefl _)⟩
  · rw [if_pos hb, if_neg (fun q => hb q.1)]
    exact ⟨fun q => absurd q (by decide), fun q => absurd q (Nat.lt_irrefl _)⟩
theorem ob1_le {A : Nat → tR} {r n : Nat} {km a : Int32} (hn12 : n ≤ 12) : (ob1 A r n km a).2 ≤ 12 := by
  unfold ob1
  split
  · show n + 1 ≤ 12; omega
  · exact hn12
theorem ob1_n {A : Nat → tR} {r n : Nat} {km a : Int32} (hn : A r 12 0 = nI n) : (ob1 A r n km a).1 r 12 0 = nI (ob1 A r n km a).2 := by
  unfold ob1
  split
  · show u3 _ _ _ _ _ _ _ _ = _
    rw [u3_ap, if_pos ⟨rfl, rfl, rfl⟩, ← nI_succ]
  · exact hn
def obR (K : Nat → tR) (s r : Nat) : Nat → Int32 → (Nat → tR) × Nat → Nat → Int32 × ((Nat → tR) × Nat)
  | 0, _, q, c => (nI c, q)
  | k + 1, pl, q, c => if 0 ≤ pl ∧ 0 ≤ (2 : Int32) ∧ 2 ≤ K s 1 1 - pl then obR K s r k (pl + 2) (ob1 q.1 r q.2 (K s 0 pl.toNatClampNeg) (K s 0 (pl + 1).toNatClampNeg)) (if q.2 < (ob1 q.1 r q.2 (K s 0 pl.toNatClampNeg) (K s 0 (pl + 1).toNatClampNeg)).2 then c + 1 else c) else (-12, q)
theorem lp_120 {d : Nat} {g : mG} {N : Nat} {T K : Nat → tR} {B : tR} {E : Nat → Int32} {l : Int64} {G : tR} {Qm : Nat → mC} {r0 r1 : Nat} (e0 : r0 = 0) (e1 : r1 = 1) {s sz nn : Nat} (hs : s < 4) (hsz : K s 1 1 = nI sz) (h40 : sz ≤ 40) (hnn : nn ≤ 12) {so at0 : Int32} (hd : 6 ≤ d) {Q : Option Value → mM → Prop} : ∀ (k i : Nat) (pl : Int32) (A : Nat → tR) (n c : Nat), i + k = nn → A r0 12 0 = nI n → n ≤ 12 → c ≤ i → Q (some (.int (obR K s r0 k pl (A, n) c).1)) (N, H3 g (cc (obR K s r0 k pl (A, n) c).2.1 T K B E l G) Qm) → Wp d 120 69 [.ref 0, .int (nI s), .int so, .int at0, .int (nI nn), .ref (sb s), .int (nI c), .int pl, .int (nI i)] [] (N, H3 g (cc A T K B E l G) Qm) Q := by
  intro k
  induction k with
  | zero =>
    intro i pl A n c hi hn hn12 hc hQ
    refine W_iload d_120_69 rfl ?_
    refine W_iload d_120_71 rfl ?_
    refine W_icmp_ge (tgt := 127) d_120_73 (by decide) (fun h73 => ?_) (fun h73 => absurd (nI_le (a := nn) (b := i) (by omega) (by omega)) h73)
    refine W_iload d_120_127 rfl ?_
    refine W_iret d_120_129 rt_120 rfl ?_
    exact hQ
  | succ k ih =>
    intro i pl A n c hi hn hn12 hc hQ
    refine W_iload d_120_69 rfl ?_
    refine W_iload d_120_71 rfl ?_
    refine W_icmp_ge (tgt := 127) d_120_73 (by decide) (fun h73 => absurd h73 (nI_ge (a := i) (b := nn) (by omega) (by omega))) (fun h73 => ?_)
    refine W_aload d_120_76 rfl (sb_ne (by assumption)) ?_
    refine W_iload d_120_78 rfl ?_
    refine W_iconst d_120_80 (v := 2) (by decide) ?_
    refine W_callV d_120_81 o_120 (Or.inl k_6_267) (by omega) (x_81 hs) rfl (mrecv_of (h_sheet (by assumption)) o_81.symm) rfl (Nat.le_of_ble_eq_true rfl) ?_
    refine W_if_ne (tgt := 90) d_120_84 (by decide) (fun h84 => ?_) (fun h84 => ?_)
    · obtain ⟨a, b, ea, eb, hab⟩ := places_of (i := pl) (w := 2) (c := sz) h40 (hsz ▸ bI_t h84)
      obtain rfl : b = 2 := (nI_eq (a := b) (b := 2) (by omega) (by decide)).mp eb.symm
      subst ea
      refine W_aload_n d_120_90 rfl (by decide) ?_
      refine W_aload d_120_91 rfl (sb_ne (by assumption)) ?_
      refine W_getf d_120_93 o_120 k_6_270 (h_sheet (by assumption)) rfl ?_
      refine W_iload d_120_96 rfl ?_
      refine W_iald d_120_98 (h_row (by assumption)) (by decide) (vp_in_nI (by omega) (by decide)) (congrArg _ (nI_clamp (by omega))) ?_
      refine W_aload d_120_99 rfl (sb_ne (by assumption)) ?_
      refine W_getf d_120_101 o_120 k_6_270 (h_sheet (by assumption)) rfl ?_
      refine W_iload d_120_104 rfl ?_
      refine W_iconst d_120_106 (v := 1) (by decide) ?_
      refine W_iadd d_120_107 ?_
      rw [show ((nI a + 1 : Int32)) = nI (a + 1) from nI_add a 1]
      refine W_iald d_120_108 (h_row (by assumption)) (by decide) (vp_in_nI (by omega) (by decide)) (congrArg _ (nI_clamp (by omega))) ?_
      refine W_callV d_120_109 o_120 (Or.inl k_6_279) (by omega) (p_90 e0 e1 hn hn12 (by omega)) rfl (mrecv_of rfl o_90.symm) rfl (Nat.le_of_ble_eq_true rfl) ?_
      refine W_if_lt (tgt := 118) d_120_112 (by decide) (fun h112 => ?_) (fun h112 => ?_)
      · refine W_iinc (v := 2) d_120_118 rfl (by decide) rfl ?_
        rw [show ((nI a + 2 : Int32)) = nI (a + 2) from nI_add a 2]
        refine W_iinc (v := 1) d_120_121 rfl (by decide) rfl ?_
        rw [show ((nI i + 1 : Int32)) = nI (i + 1) from nI_add i 1]
        refine W_goto (tgt := 69) d_120_124 (by decide) ?_
        have hQ2 := hQ
        rw [obR, if_pos (bI_t h84), show (nI a + 2 : Int32) = nI (a + 2) from nI_add a 2, ← nI_succ, nI_clamp (show a < 2 ^ 31 by omega), nI_clamp (show a + 1 < 2 ^ 31 by omega)] at hQ2
        simp only [if_neg (fun q => absurd ((obv_ge (A := A) (r := r0) hn12).mpr q) (Int32.not_le.mpr h112))] at hQ2
        exact ih (i + 1) (nI (a + 2)) (ob1 A r0 n (K s 0 a) (K s 0 (a + 1))).1 (ob1 A r0 n (K s 0 a) (K s 0 (a + 1))).2 _ (by omega) (ob1_n hn) (ob1_le hn12) (by omega) hQ2
      · refine W_iinc (v := 1) d_120_115 rfl (by decide) rfl ?_
        rw [show ((nI c + 1 : Int32)) = nI (c + 1) from nI_add c 1]
        refine W_iinc (v := 2) d_120_118 rfl (by decide) rfl ?_
        rw [show ((nI a + 2 : Int32)) = nI (a + 2) from nI_add a 2]
        refine W_iinc (v := 1) d_120_121 rfl (by decide) rfl ?_
        rw [show ((nI i + 1 : Int32)) = nI (i + 1) from nI_add i 1]
        refine W_goto (tgt := 69) d_120_124 (by decide) ?_
        have hQ2 := hQ
        rw [obR, if_pos (bI_t h84), show (nI a + 2 : Int32) = nI (a + 2) from nI_add a 2, ← nI_succ, nI_clamp (show a < 2 ^ 31 by omega), nI_clamp (show a + 1 < 2 ^ 31 by omega)] at hQ2
        simp only [if_pos ((obv_ge (A := A) (r := r0) hn12).mp (Int32.not_lt.mp h112))] at hQ2
        exact ih (i + 1) (nI (a + 2)) (ob1 A r0 n (K s 0 a) (K s 0 (a + 1))).1 (ob1 A r0 n (K s 0 a) (K s 0 (a + 1))).2 _ (by omega) (ob1_n hn) (ob1_le hn12) (by omega) hQ2
    · refine W_bipush d_120_87 (v := (-12)) (by decide) ?_
      refine W_iret d_120_89 rt_120 rfl ?_
      rw [obR, if_neg (bI_f h84)] at hQ
      exact hQ
theorem p_120a {d : Nat} {g : mG} {N : Nat} {A T K : Nat → tR} {B : tR} {E : Nat → Int32} {l : Int64} {G : tR} {Qm : Nat → mC} {r0 r1 : Nat} (e0 : r0 = 0) (e1 : r1 = 1) {v so at0 w : Int32} (hb : ¬ ((0 ≤ v ∧ v ≤ 3) ∧ (0 ≤ so ∧ so ≤ 2) ∧ (0 ≤ w ∧ w ≤ 12))) (hd : 4 ≤ d) : Ex d 120 [.ref 0, .int v, .int so, .int at0, .int w] (N, H3 g (cc A T K B E l G) Qm) (some (.int (-2))) (N, H3 g (cc A T K B E l G) Qm) := by
  refine Ex.of ?_
  show Wp _ 120 0 [.ref 0, .int v, .int so, .int at0, .int w, .null, .null, .null, .null] [] _ _
  refine W_iload_n d_120_0 rfl ?_
  refine W_callS d_120_1 o_120 k_6_229 (by omega) (x_133 (by omega)) rfl (Nat.le_of_ble_eq_true rfl) ?_
  refine W_if_eq (tgt := 26) d_120_4 (by decide) (fun h4 => ?_) (fun h4 => ?_)
  · refine W_bipush d_120_26 (v := (-2)) (by decide) ?_
    refine W_iret d_120_28 rt_120 rfl ?_
    exact ⟨rfl, rfl⟩
  · refine W_iload_n d_120_7 rfl ?_
    refine W_if_lt (tgt := 26) d_120_8 (by decide) (fun h8 => ?_) (fun h8 => ?_)
    · refine W_bipush d_120_26 (v := (-2)) (by decide) ?_
      refine W_iret d_120_28 rt_120 rfl ?_
      exact ⟨rfl, rfl⟩
    · refine W_iload_n d_120_11 rfl ?_
      refine W_iconst d_120_12 (v := 2) (by decide) ?_
      refine W_icmp_gt (tgt := 26) d_120_13 (by decide) (fun h13 => ?_) (fun h13 => ?_)
      · refine W_bipush d_120_26 (v := (-2)) (by decide) ?_
        refine W_iret d_120_28 rt_120 rfl ?_
        exact ⟨rfl, rfl⟩
      · refine W_iload d_120_16 rfl ?_
        refine W_bipush d_120_18 (v := 12) (by decide) ?_
        refine W_callS d_120_20 o_120 k_6_95 (by omega) x_126 rfl (Nat.le_of_ble_eq_true rfl) ?_
        refine W_if_ne (tgt := 29) d_120_23 (by decide) (fun h23 => ?_) (fun h23 => ?_)
        · exact (hb ⟨bI_t h4, ⟨Int32.not_lt.mp h8, Int32.not_lt.mp h13⟩, bI_t h23⟩).elim
        · refine W_bipush d_120_26 (v := (-2)) (by decide) ?_
          refine W_iret d_120_28 rt_120 rfl ?_
          exact ⟨rfl, rfl⟩
theorem p_120b {d : Nat} {g : mG} {N : Nat} {A T K : Nat → tR} {B : tR} {E : Nat → Int32} {l : Int64} {G : tR} {Qm : Nat → mC} {r0 r1 : Nat} (e0 : r0 = 0) (e1 : r1 = 1) {s : Nat} (hs : s < 4) {so at0 : Int32} (hso : 0 ≤ so ∧ so ≤ 2) {nn : Nat} (hnn : nn ≤ 12) (hm : K s 1 0 = -1) (hd : 4 ≤ d) : Ex d 120 [.ref 0, .int (nI s), .int so, .int at0, .int (nI nn)] (N, H3 g (cc A T K B E l G) Qm) (some (.int (-11))) (N, H3 g (cc A T K B E l G) Qm) := by
  refine Ex.of ?_
  show Wp _ 120 0 [.ref 0, .int (nI s), .int so, .int at0, .int (nI nn), .null, .null, .null, .null] [] _ _
  refine W_iload_n d_120_0 rfl ?_
  refine W_callS d_120_1 o_120 k_6_229 (by omega) (x_133 (by omega)) rfl (Nat.le_of_ble_eq_true rfl) ?_
  refine W_if_eq (tgt := 26) d_120_4 (by decide) (fun h4 => absurd h4 (fun q => bI_f q ⟨nI_pos' (by omega), nI_le (a := s) (b := 3) (by omega) (by decide)⟩)) (fun h4 => ?_)
  refine W_iload_n d_120_7 rfl ?_
  refine W_if_lt (tgt := 26) d_120_8 (by decide) (fun h8 => absurd h8 (Int32.not_lt.mpr hso.1)) (fun h8 => ?_)
  refine W_iload_n d_120_11 rfl ?_
  refine W_iconst d_120_12 (v := 2) (by decide) ?_
  refine W_icmp_gt (tgt := 26) d_120_13 (by decide) (fun h13 => absurd h13 (Int32.not_lt.mpr hso.2)) (fun h13 => ?_)
  refine W_iload d_120_16 rfl ?_
  refine W_bipush d_120_18 (v := 12) (by decide) ?_
  refine W_callS d_120_20 o_120 k_6_95 (by omega) x_126 rfl (Nat.le_of_ble_eq_true rfl) ?_
  refine W_if_ne (tgt := 29) d_120_23 (by decide) (fun h23 => ?_) (fun h23 => absurd h23 (fun q => bI_f q ⟨nI_pos' (by omega), nI_le (a := nn) (b := 12) hnn (by decide)⟩))
  refine W_aload_n d_120_29 rfl (by decide) ?_
  refine W_getf d_120_30 o_120 k_6_37 rfl rfl ?_
  refine W_iload_n d_120_33 rfl ?_
  refine W_aald d_120_34 rfl (vp_in_nI (by omega) (by decide)) (sha_v (by omega)) ?_
  refine W_astore d_120_35 (sb_ne (by assumption)) rfl ?_
  refine W_aload d_120_37 rfl (sb_ne (by assumption)) ?_
  refine W_callV d_120_39 o_120 (Or.inl k_6_238) (by omega) (x_78 (by assumption)) rfl (mrecv_of (h_sheet (by assumption)) o_78.symm) rfl (Nat.le_of_ble_eq_true rfl) ?_
  refine W_if_eq (tgt := 48) d_120_42 (by decide) (fun h42 => absurd h42 (fun q => bI_f q hm)) (fun h42 => ?_)
  refine W_bipush d_120_45 (v := (-11)) (by decide) ?_
  refine W_iret d_120_47 rt_120 rfl ?_
  exact ⟨rfl, rfl⟩
theorem p_120c {d : Nat} {g : mG} {N : Nat} {A T K : Nat → tR} {B : tR} {E : Nat → Int32} {l : Int64} {G : tR} {Qm : Nat → mC} {r0 r1 : Nat} (e0 : r0 = 0) (e1 : r1 = 1) {s : Nat} (hs : s < 4) {so at0 : Int32} (hso : 0 ≤ so ∧ so ≤ 2) {nn : Nat} (hnn : nn ≤ 12) (hm : ¬ K s 1 0 = -1) (hx : ¬ K s 1 0 = so) (hd : 4 ≤ d) : Ex d 120 [.ref 0, .int (nI s), .int so, .int at0, .int (nI nn)] (N, H3 g (cc A T K B E l G) Qm) (some (.int (-13))) (N, H3 g (cc A T K B E l G) Qm) := by
  refine Ex.of ?_
  show Wp _ 120 0 [.ref 0, .int (nI s), .int so, .int at0, .int (nI nn), .null, .null, .null, .null] [] _ _
  refine W_iload_n d_120_0 rfl ?_
  refine W_callS d_120_1 o_120 k_6_229 (by omega) (x_133 (by omega)) rfl (Nat.le_of_ble_eq_true rfl) ?_
  refine W_if_eq (tgt := 26) d_120_4 (by decide) (fun h4 => absurd h4 (fun q => bI_f q ⟨nI_pos' (by omega), nI_le (a := s) (b := 3) (by omega) (by decide)⟩)) (fun h4 => ?_)
  refine W_iload_n d_120_7 rfl ?_
  refine W_if_lt (tgt := 26) d_120_8 (by decide) (fun h8 => absurd h8 (Int32.not_lt.mpr hso.1)) (fun h8 => ?_)
  refine W_iload_n d_120_11 rfl ?_
  refine W_iconst d_120_12 (v := 2) (by decide) ?_
  refine W_icmp_gt (tgt := 26) d_120_13 (by decide) (fun h13 => absurd h13 (Int32.not_lt.mpr hso.2)) (fun h13 => ?_)
  refine W_iload d_120_16 rfl ?_
  refine W_bipush d_120_18 (v := 12) (by decide) ?_
  refine W_callS d_120_20 o_120 k_6_95 (by omega) x_126 rfl (Nat.le_of_ble_eq_true rfl) ?_
  refine W_if_ne (tgt := 29) d_120_23 (by decide) (fun h23 => ?_) (fun h23 => absurd h23 (fun q => bI_f q ⟨nI_pos' (by omega), nI_le (a := nn) (b := 12) hnn (by decide)⟩))
  refine W_aload_n d_120_29 rfl (by decide) ?_
  refine W_getf d_120_30 o_120 k_6_37 rfl rfl ?_
  refine W_iload_n d_120_33 rfl ?_
  refine W_aald d_120_34 rfl (vp_in_nI (by omega) (by decide)) (sha_v (by omega)) ?_
  refine W_astore d_120_35 (sb_ne (by assumption)) rfl ?_
  refine W_aload d_120_37 rfl (sb_ne (by assumption)) ?_
  refine W_callV d_120_39 o_120 (Or.inl k_6_238) (by omega) (x_78 (by assumption)) rfl (mrecv_of (h_sheet (by assumption)) o_78.symm) rfl (Nat.le_of_ble_eq_true rfl) ?_
  refine W_if_eq (tgt := 48) d_120_42 (by decide) (fun h42 => ?_) (fun h42 => absurd (bI_ne.mpr hm) h42)
  refine W_aload d_120_48 rfl (sb_ne (by assumption)) ?_
  refine W_getf d_120_50 o_120 k_6_264 (h_sheet (by assumption)) rfl ?_
  refine W_iload_n d_120_53 rfl ?_
  refine W_icmp_eq (tgt := 60) d_120_54 (by decide) (fun h54 => absurd h54 hx) (fun h54 => ?_)
  refine W_bipush d_120_57 (v := (-13)) (by decide) ?_
  refine W_iret d_120_59 rt_120 rfl ?_
  exact ⟨rfl, rfl⟩
theorem p_120 {d : Nat} {g : mG} {N : Nat} {A T K : Nat → tR} {B : tR} {E : Nat → Int32} {l : Int64} {G : tR} {Qm : Nat → mC} {r0 r1 : Nat} (e0 : r0 = 0) (e1 : r1 = 1) {s : Nat} (hs : s < 4) {so at0 : Int32} (hso : 0 ≤ so ∧ so ≤ 2) {nn : Nat} (hnn : nn ≤ 12) (hm : ¬ K s 1 0 = -1) (hx : K s 1 0 = so) {sz : Nat} (hsz : K s 1 1 = nI sz) (h40 : sz ≤ 40) {n : Nat} (hn : A r0 12 0 = nI n) (hn12 : n ≤ 12) (hd : 6 ≤ d) : Ex d 120 [.ref 0, .int (nI s), .int so, .int at0, .int (nI nn)] (N, H3 g (cc A T K B E l G) Qm) (some (.int ((obR K s r0 nn at0 (A, n) 0).1))) (N, H3 g (cc (obR K s r0 nn at0 (A, n) 0).2.1 T K B E l G) Qm) := by
  refine Ex.of ?_
  show Wp _ 120 0 [.ref 0, .int (nI s), .int so, .int at0, .int (nI nn), .null, .null, .null, .null] [] _ _
  refine W_iload_n d_120_0 rfl ?_
  refine W_callS d_120_1 o_120 k_6_229 (by omega) (x_133 (by omega)) rfl (Nat.le_of_ble_eq_true rfl) ?_
  refine W_if_eq (tgt := 26) d_120_4 (by decide) (fun h4 => absurd h4 (fun q => bI_f q ⟨nI_pos' (by omega), nI_le (a := s) (b := 3) (by omega) (by decide)⟩)) (fun h4 => ?_)
  refine W_iload_n d_120_7 rfl ?_
  refine W_if_lt (tgt := 26) d_120_8 (by decide) (fun h8 => absurd h8 (Int32.not_lt.mpr hso.1)) (fun h8 => ?_)
  refine W_iload_n d_120_11 rfl ?_
  refine W_iconst d_120_12 (v := 2) (by decide) ?_
  refine W_icmp_gt (tgt := 26) d_120_13 (by decide) (fun h13 => absurd h13 (Int32.not_lt.mpr hso.2)) (fun h13 => ?_)
  refine W_iload d_120_16 rfl ?_
  refine W_bipush d_120_18 (v := 12) (by decide) ?_
  refine W_callS d_120_20 o_120 k_6_95 (by omega) x_126 rfl (Nat.le_of_ble_eq_true rfl) ?_
  refine W_if_ne (tgt := 29) d_120_23 (by decide) (fun h23 => ?_) (fun h23 => absurd h23 (fun q => bI_f q ⟨nI_pos' (by omega), nI_le (a := nn) (b := 12) hnn (by decide)⟩))
  refine W_aload_n d_120_29 rfl (by decide) ?_
  refine W_getf d_120_30 o_120 k_6_37 rfl rfl ?_
  refine W_iload_n d_120_33 rfl ?_
  refine W_aald d_120_34 rfl (vp_in_nI (by omega) (by decide)) (sha_v (by omega)) ?_
  refine W_astore d_120_35 (sb_ne (by assumption)) rfl ?_
  refine W_aload d_120_37 rfl (sb_ne (by assumption)) ?_
  refine W_callV d_120_39 o_120 (Or.inl k_6_238) (by omega) (x_78 (by assumption)) rfl (mrecv_of (h_sheet (by assumption)) o_78.symm) rfl (Nat.le_of_ble_eq_true rfl) ?_
  refine W_if_eq (tgt := 48) d_120_42 (by decide) (fun h42 => ?_) (fun h42 => absurd (bI_ne.mpr hm) h42)
  refine W_aload d_120_48 rfl (sb_ne (by assumption)) ?_
  refine W_getf d_120_50 o_120 k_6_264 (h_sheet (by assumption)) rfl ?_
  refine W_iload_n d_120_53 rfl ?_
  refine W_icmp_eq (tgt := 60) d_120_54 (by decide) (fun h54 => ?_) (fun h54 => absurd hx h54)
  refine W_iconst d_120_60 (v := 0) (by decide) ?_
  refine W_istore d_120_61 rfl ?_
  refine W_iload_n d_120_63 rfl ?_
  refine W_istore d_120_64 rfl ?_
  refine W_iconst d_120_66 (v := 0) (by decide) ?_
  refine W_istore d_120_67 rfl ?_
  exact lp_120 e0 e1 hs hsz h40 hnn hd nn 0 at0 A n 0 (by omega) hn hn12 (by omega) ⟨rfl, rfl⟩
