/-! ROAD: an hour (wip/whole/gen18.py) -/
theorem ExG {d z : Nat} {vs : List Value} {M : mM} {v : Option Value} {f : tR → mM} (h : Wp d z 0 (ment z vs) [] M (fun v' M' => v' = v ∧ ∃ G', M' = f G')) : ∃ G', Ex d z vs M v (f G') := by
  obtain ⟨n, v', M', h1, rfl, G', rfl⟩ := h
  exact ⟨G', n, h1⟩
section
variable {d y pc : Nat} {L st : List Value} {M : mM} {Q : Option Value → mM → Prop}
theorem W_callVG {c i z na b : Nat} {vs rest : List Value} {v : Option Value} {f : tR → mM} (hd : decode (bt y) pc = .ok (.invokevirtual i, 3)) (ho : mow y = c) (hl : lk c i = (4, z, na) ∨ lk c i = (15, z, na)) (h1 : 1 ≤ d) (hc : ∃ G', Ex (d - 1) z vs M v (f G')) (hb : st[na]? = some (.ref b)) (hr : mrecv z b M = true) (hm : mcall z na true st = some (.inr (.inl (z, vs, rest)))) (hv : (mexp vs).length ≤ mml z) (k : ∀ G', Wp d y (pc + 3) L (v.toList ++ rest) (f G') Q) : Wp d y pc L st M Q := by
  obtain ⟨G', hc⟩ := hc
  exact W_callV hd ho hl h1 hc hb hr hm hv (k G')
end
/-- a text that was read: where its parts begin -/
def Lw (R : tR) (z : Nat → Nat) : Prop := (∀ p, p ≤ 3 → R 1 p = nI (z p)) ∧ (∀ p, p < 3 → z p ≤ z (p + 1)) ∧ z 3 ≤ 160 ∧ ∀ p, p < 3 → sok (R 0) (z (p + 1) - z p) (z p) 0 = some 1
def sv (R : tR) (z : Nat → Nat) (p : Nat) (F : Nat → Int32) : Int32 := i_max 0 (i_min 99 ((smr F (R 0) (z (p + 1) - z p) (z p) (fun _ => 0, 0)).1 0))
theorem smr_ext {F F' : Nat → Int32} (hF : ∀ m, m < 6 → F m = F' m) (S : Nat → Int32) : ∀ (k i h f : Nat) (row row' : Nat → Int32), sok S k i h = some f → (∀ j, j < h → row j = row' j) → ∀ j, j < f → (smr F S k i (row, h)).1 j = (smr F' S k i (row', h)).1 j := by
  intro k
  induction k with
  | zero =>
    intro i h f row row' hok hr j hj
    cases hok
    exact hr j hj
  | succ k ih =>
    intro i h f row row' hok hr j hj
    show (smr F S k (i + 1) (sm1 F (S i) (row, h))).1 j = (smr F' S k (i + 1) (sm1 F' (S i) (row', h))).1 j
    by_cases h0 : S i < 0
    · by_cases h1 : S i = -3 ∨ S i = -9
      · obtain ⟨q1, q2⟩ := sok_un h0 h1 hok
        rw [sm1_un h0 h1 rfl, sm1_un h0 h1 rfl]
        refine ih _ _ _ _ _ q2 (fun m hm => ?_) j hj
        simp only [va_up]
        split
        · rw [hr (h - 1) (by omega)]
        · exact hr m hm
      · obtain ⟨q1, q2⟩ := sok_bin h0 h1 hok
        rw [sm1_bin h0 h1, sm1_bin h0 h1]
        refine ih _ _ _ _ _ q2 (fun m hm => ?_) j hj
        simp only [va_up]
        split
        · rw [hr (h - 1) (by omega), hr (h - 2) (by omega)]
        · exact hr m (by omega)
    · obtain ⟨q1, q2⟩ := sok_ge h0 hok
      by_cases h1 : 10000 ≤ S i
      · obtain ⟨m, hm, em⟩ := fact_ix h1 q1
        rw [sm1_fact h0 h1 hm em, sm1_fact h0 h1 hm em]
        refine ih _ _ _ _ _ q2 (fun m' hm' => ?_) j hj
        simp only [va_up]
        split
        · exact hF m hm
        · exact hr m' (by omega)
      · rw [sm1_lit h0 h1, sm1_lit h0 h1]
        refine ih _ _ _ _ _ q2 (fun m' hm' => ?_) j hj
        simp only [va_up]
        split
        · rfl
        · exact hr m' (by omega)
theorem Lw_le {R : tR} {z : Nat → Nat} (h : Lw R z) {p : Nat} (hp : p < 3) : z (p + 1) ≤ 160 := by
  obtain ⟨_, h2, h3, _⟩ := h
  have a : z 0 ≤ z 1 := h2 0 (by omega)
  have b : z 1 ≤ z 2 := h2 1 (by omega)
  have c : z 2 ≤ z 3 := h2 2 (by omega)
  have : p = 0 ∨ p = 1 ∨ p = 2 := by omega
  rcases this with rfl | rfl | rfl
  · show z 1 ≤ 160; omega
  · show z 2 ≤ 160; omega
  · exact h3
theorem x_19w {d : Nat} {g : mG} {N : Nat} {A T K : Nat → tR} {B : tR} {E : Nat → Int32} {l : Int64} {G : tR} {Qm : Nat → mC} {r : Nat} (hr : r < 3) {t : Nat} (ht : t < 6) {z : Nat → Nat} (hL : Lw (T t) z) (hd : 1 ≤ d) {p : Nat} (hp : p < 3) {F : Nat → Int32} (hF : ∀ m, m < 6 → G r m = F m) : ∃ G', Ex d 19 [.ref (lb t), .int (nI p), .ref (rb r + 5)] (N, H3 g (cc A T K B E l G) Qm) (some (.int (sv (T t) z p F))) (N, H3 g (cc A T K B E l G') Qm) := by
  have hle := hL.2.1 p hp
  have h := x_19 (g := g) (N := N) (A := A) (T := T) (K := K) (B := B) (E := E) (l := l) (G := G) (Qm := Qm) ht hr hp (hL.1 p (by omega)) ((hL.1 (p + 1) (by omega)).trans (congrArg nI (show z (p + 1) = z p + (z (p + 1) - z p) by omega))) (by have := Lw_le hL hp; omega) (hL.2.2.2 p hp) hd
  have e : sgV G T t r (z p) (z (p + 1) - z p) = sv (T t) z p F := by
    unfold sgV sv
    rw [smr_ext hF (T t 0) _ _ _ _ (G (3 + t)) (fun _ => 0) (hL.2.2.2 p hp) (fun _ q => absurd q (Nat.not_lt_zero _)) 0 (by decide)]
  rw [e] at h
  exact ⟨_, h⟩
def fx (h w m p q c : Int32) : Nat → Int32 := fun j => if j = 0 then h else if j = 1 then w else if j = 2 then m else if j = 3 then p else if j = 4 then q else c
theorem fcs_fx (G : tR) (r : Nat) (h w m p q c : Int32) : ∀ j, j < 6 → fcs G r h w m p q c r j = fx h w m p q c j := by
  intro j hj
  have : j = 0 ∨ j = 1 ∨ j = 2 ∨ j = 3 ∨ j = 4 ∨ j = 5 := by omega
  rcases this with rfl | rfl | rfl | rfl | rfl | rfl <;> simp [fcs, fx, u2_ap]
/-- what a part of a text says, told of the road's hour and passes -/
def sq (R Lr : tR) (z : Nat → Nat) (p : Nat) (gate more heap wall : Int32) : Int32 := sv Lr z p (fx (R 12 2) wall more heap gate (R 12 1))
theorem x_68 {d : Nat} {g : mG} {N : Nat} {A T K : Nat → tR} {B : tR} {E : Nat → Int32} {l : Int64} {G : tR} {Qm : Nat → mC} {r : Nat} (hr : r < 3) {t : Nat} (ht : t < 6) {z : Nat → Nat} (hL : Lw (T t) z) {p j : Nat} (hp : p < 3) (hj : j < 12) {wl : Int32} (hd : 2 ≤ d) : ∃ G', Ex d 68 [.ref (rb r), .int (nI p), .ref (lb t), .int (nI j), .int wl] (N, H3 g (cc A T K B E l G) Qm) (some (.int (sq (A r) (T t) z p (nI j) (A r 1 j) (A r 3 j) wl))) (N, H3 g (cc A T K B E l G') Qm) := by
  refine ExG (f := fun G' => (N, H3 g (cc A T K B E l G') Qm)) ?_
  show Wp _ 68 0 [.ref (rb r), .int (nI p), .ref (lb t), .int (nI j), .int wl] [] _ _
  refine W_aload_n d_68_0 rfl (rb_ne (by assumption)) ?_
  refine W_iload_n d_68_1 rfl ?_
  refine W_aload_n d_68_2 rfl (rb_ne (by assumption)) ?_
  refine W_getf d_68_3 o_68 k_4_11 (h_road (by assumption)) rfl ?_
  refine W_iload_n d_68_6 rfl ?_
  refine W_aald d_68_7 (h_owners (by assumption)) (vp_in_nI (by omega) (by decide)) (owa_v (by omega)) ?_
  refine W_getf d_68_8 o_68 k_4_119 (h_owner (by assumption) (by assumption)) rfl ?_
  refine W_aload_n d_68_11 rfl (rb_ne (by assumption)) ?_
  refine W_getf d_68_12 o_68 k_4_11 (h_road (by assumption)) rfl ?_
  refine W_iload_n d_68_15 rfl ?_
  refine W_aald d_68_16 (h_owners (by assumption)) (vp_in_nI (by omega) (by decide)) (owa_v (by omega)) ?_
  refine W_getf d_68_17 o_68 k_4_122 (h_owner (by assumption) (by assumption)) rfl ?_
  refine W_iload d_68_20 rfl ?_
  refine W_callV d_68_22 o_68 (Or.inl k_4_105) (by omega) (x_69 (by assumption)) rfl (mrecv_of (h_road (by assumption)) o_69.symm) rfl (Nat.le_of_ble_eq_true rfl) ?_
  refine W_aload_n d_68_25 rfl (lb_ne (by assumption)) ?_
  refine W_iload_n d_68_26 rfl ?_
  refine W_aload_n d_68_27 rfl (rb_ne (by assumption)) ?_
  refine W_getf d_68_28 o_68 k_4_33 (h_road (by assumption)) rfl ?_
  refine W_callVG d_68_31 o_68 (Or.inl k_4_109) (by omega) (x_19w hr ht hL (by omega) hp (fcs_fx _ _ _ _ _ _ _ _)) rfl (mrecv_of (h_law (by assumption)) o_19.symm) rfl (Nat.le_of_ble_eq_true rfl) (fun G' => ?_)
  refine W_iret d_68_34 rt_68 rfl ?_
  exact ⟨rfl, _, rfl⟩
def sfA (A : Nat → tR) (r : Nat) (f : Int32) : Nat → Nat → tR
  | 0 => A
  | i + 1 => u3 (sfA A r f i) r 9 i (i_min 999 (sfA A r f i r 9 i + f))
theorem sfA_12 (A : Nat → tR) (r : Nat) (f : Int32) (i r' a j : Nat) (h : ¬ a = 9) : sfA A r f i r' a j = A r' a j := by
  induction i with
  | zero => rfl
  | succ i ih => rw [sfA, u3_ap, if_neg (by omega), ih]
theorem lp_65 {d : Nat} {g : mG} {N : Nat} {A T K : Nat → tR} {B : tR} {E : Nat → Int32} {l : Int64} {G : tR} {Qm : Nat → mC} {r : Nat} (hr : r < 3) {t : Nat} {f : Int32} {n : Nat} (h6 : n = 6) (hd : 2 ≤ d) {Q : Option Value → mM → Prop} (kk : Q none (N, H3 g (cc (sfA A r f n) T K B E l G) Qm)) : ∀ k i, i + k = n → Wp d 65 20 [.ref (rb r), .ref (lb t), .int f, .int (nI i)] [] (N, H3 g (cc (sfA A r f i) T K B E l G) Qm) Q := by
  intro k
  induction k with
  | zero =>
    intro i hi
    obtain rfl : i = n := by omega
    skip
    refine W_iload_n d_65_20 rfl ?_
    refine W_aload_n d_65_21 rfl (rb_ne (by assumption)) ?_
    refine W_getf d_65_22 o_65 k_4_17 (h_road (by assumption)) rfl ?_
    refine W_alen (n := 6) (v := 6) d_65_25 ((congrArg mlen (h_lies (by assumption))).trans rfl) (by decide) ?_
    first | rw [show (6 : Int32) = nI n from by subst h6; rfl] | rw [show (6 : Int32) = nI i from by subst h6; rfl]
    refine W_icmp_ge (tgt := 55) d_65_26 (by decide) (fun h26 => ?_) (fun h26 => absurd (nI_le (a := i) (b := i) (by omega) (by omega)) h26)
    refine W_ret d_65_55 rt_65 ?_
    exact kk
  | succ k ih =>
    intro i hi
    have hj : i < 6 := by omega
    refine W_iload_n d_65_20 rfl ?_
    refine W_aload_n d_65_21 rfl (rb_ne (by assumption)) ?_
    refine W_getf d_65_22 o_65 k_4_17 (h_road (by assumption)) rfl ?_
    refine W_alen (n := 6) (v := 6) d_65_25 ((congrArg mlen (h_lies (by assumption))).trans rfl) (by decide) ?_
    first | rw [show (6 : Int32) = nI n from by subst h6; rfl] | rw [show (6 : Int32) = nI i from by subst h6; rfl]
    refine W_icmp_ge (tgt := 55) d_65_26 (by decide) (fun h26 => absurd h26 (nI_ge (a := i) (b := n) (by omega) (by omega))) (fun h26 => ?_)
    refine W_aload_n d_65_29 rfl (rb_ne (by assumption)) ?_
    refine W_getf d_65_30 o_65 k_4_17 (h_road (by assumption)) rfl ?_
    refine W_iload_n d_65_33 rfl ?_
    refine W_sipush d_65_34 (v := 999) (by decide) ?_
    refine W_aload_n d_65_37 rfl (rb_ne (by assumption)) ?_
    refine W_getf d_65_38 o_65 k_4_17 (h_road (by assumption)) rfl ?_
    refine W_iload_n d_65_41 rfl ?_
    refine W_iald d_65_42 (h_lies (by assumption)) (by decide) (vp_in_nI (by omega) (by decide)) (congrArg _ (nI_clamp (by omega))) ?_
    refine W_iload_n d_65_43 rfl ?_
    refine W_iadd d_65_44 ?_
    refine W_callS d_65_45 o_65 k_4_81 (by omega) x_14 rfl (Nat.le_of_ble_eq_true rfl) ?_
    refine W_iast d_65_48 (h_lies (by assumption)) (vp_in_nI (by omega) (by decide)) (ms_liesU (by assumption) (nI_clamp (by omega))) ?_
    refine W_iinc (v := 1) d_65_49 rfl (by decide) rfl ?_
    refine W_goto (tgt := 20) d_65_52 (by decide) ?_
    have h9 := ih (i + 1) (by omega)
    rw [nI_succ] at h9
    exact h9
def snA (A : Nat → tR) (r : Nat) (Lr : tR) (z : Nat → Nat) : Nat → tR := sfA A r (sq (A r) Lr z 0 0 0 0 0) 6
theorem x_65 {d : Nat} {g : mG} {N : Nat} {A T K : Nat → tR} {B : tR} {E : Nat → Int32} {l : Int64} {G : tR} {Qm : Nat → mC} {r : Nat} (hr : r < 3) {t : Nat} (ht : t < 6) {z : Nat → Nat} (hL : Lw (T t) z) (hd : 2 ≤ d) : ∃ G', Ex d 65 [.ref (rb r), .ref (lb t)] (N, H3 g (cc A T K B E l G) Qm) none (N, H3 g (cc (snA A r (T t) z) T K B E l G') Qm) := by
  refine ExG (f := fun G' => (N, H3 g (cc (snA A r (T t) z) T K B E l G') Qm)) ?_
  show Wp _ 65 0 [.ref (rb r), .ref (lb t), .null, .null] [] _ _
  refine W_aload_n d_65_0 rfl (rb_ne (by assumption)) ?_
  refine W_iconst d_65_1 (v := 0) (by decide) ?_
  refine W_iconst d_65_2 (v := 0) (by decide) ?_
  refine W_iconst d_65_3 (v := 0) (by decide) ?_
  refine W_iconst d_65_4 (v := 0) (by decide) ?_
  refine W_callV d_65_5 o_65 (Or.inl k_4_105) (by omega) (x_69 hr) rfl (mrecv_of (h_road (by assumption)) o_69.symm) rfl (Nat.le_of_ble_eq_true rfl) ?_
  refine W_aload_n d_65_8 rfl (lb_ne (by assumption)) ?_
  refine W_iconst d_65_9 (v := 0) (by decide) ?_
  refine W_aload_n d_65_10 rfl (rb_ne (by assumption)) ?_
  refine W_getf d_65_11 o_65 k_4_33 (h_road (by assumption)) rfl ?_
  refine W_callVG d_65_14 o_65 (Or.inl k_4_109) (by omega) (x_19w hr ht hL (by omega) (p := 0) (by decide) (fcs_fx _ _ _ _ _ _ _ _)) rfl (mrecv_of (h_law (by assumption)) o_19.symm) rfl (Nat.le_of_ble_eq_true rfl) (fun G' => ?_)
  refine W_istore_n d_65_17 rfl ?_
  refine W_iconst d_65_18 (v := 0) (by decide) ?_
  refine W_istore_n d_65_19 rfl ?_
  refine lp_65 (f := sq (A r) (T t) z 0 0 0 0 0) hr rfl hd ?_ 6 0 (by omega)
  exact ⟨rfl, _, rfl⟩
theorem own_ix {v : Int32} {n : Nat} (h : 0 ≤ v ∧ v < nI n) (hn : n ≤ 12) : ∃ j, j < n ∧ v = nI j := by
  obtain ⟨h1, h2⟩ := h
  have a : (0 : Int32).toInt = 0 := rfl
  rw [Int32.le_iff_toInt_le, a] at h1
  rw [Int32.lt_iff_toInt_lt, nI_toInt (by omega)] at h2
  exact ⟨v.toInt.toNat, by omega, Int32.toInt_inj.mp (by rw [nI_toInt (by omega)]; omega)⟩
def plS (Lr : tR) (z : Nat → Nat) (r : Nat) (s : Int32) (p : Nat) (q : (Nat → tR) × Int32) : (Nat → tR) × Int32 :=
  let has := i_min 999 (q.1 r 9 p + q.2)
  let A1 := u3 q.1 r 9 p 0
  let v := 2 * nI p + s
  if 0 ≤ v ∧ v < A1 r 12 0 then
    let j := v.toNatClampNeg
    if A1 r 6 j = 1 then
      let dr := i_min has (sq (A1 r) Lr z 2 v (A1 r 1 j) (A1 r 3 j) has)
      (u3 A1 r 12 5 (A1 r 12 5 + dr), has - dr)
    else
      let A2 := u3 A1 r 2 j (i_min 999 (A1 r 2 j + has - i_min (A1 r 4 j) has))
      (u3 A2 r 12 5 (A1 r 12 5 + i_min (A1 r 4 j) has), 0)
  else (u3 A1 r 12 5 (A1 r 12 5 + has), 0)
def plR (Lr : tR) (z : Nat → Nat) (r : Nat) (s : Int32) : Nat → Nat → (Nat → tR) × Int32 → (Nat → tR) × Int32
  | 0, _, q => q
  | k + 1, i, q => plR Lr z r s k (i + 1) (plS Lr z r s i q)
def plA (A : Nat → tR) (r : Nat) (Lr : tR) (z : Nat → Nat) (s : Int32) : Nat → tR :=
  let q := plR Lr z r s 6 0 (A, 0)
  u3 q.1 r 12 5 (q.1 r 12 5 + q.2)
theorem plS_out {Lr : tR} {z : Nat → Nat} {r : Nat} {s : Int32} {p : Nat} {q : (Nat → tR) × Int32} (h : ¬ (0 ≤ 2 * nI p + s ∧ 2 * nI p + s < u3 q.1 r 9 p 0 r 12 0)) : plS Lr z r s p q = (u3 (u3 q.1 r 9 p 0) r 12 5 (u3 q.1 r 9 p 0 r 12 5 + i_min 999 (q.1 r 9 p + q.2)), 0) := if_neg h
theorem plS_lift {Lr : tR} {z : Nat → Nat} {r : Nat} {s : Int32} {p : Nat} {q : (Nat → tR) × Int32} {j : Nat} (h : 0 ≤ 2 * nI p + s ∧ 2 * nI p + s < u3 q.1 r 9 p 0 r 12 0) (ej : 2 * nI p + s = nI j) (hj : j < 12) (h1 : u3 q.1 r 9 p 0 r 6 j = 1) : plS Lr z r s p q = (u3 (u3 q.1 r 9 p 0) r 12 5 (u3 q.1 r 9 p 0 r 12 5 + i_min (i_min 999 (q.1 r 9 p + q.2)) (sq (u3 q.1 r 9 p 0 r) Lr z 2 (nI j) (u3 q.1 r 9 p 0 r 1 j) (u3 q.1 r 9 p 0 r 3 j) (i_min 999 (q.1 r 9 p + q.2)))), i_min 999 (q.1 r 9 p + q.2) - i_min (i_min 999 (q.1 r 9 p + q.2)) (sq (u3 q.1 r 9 p 0 r) Lr z 2 (nI j) (u3 q.1 r 9 p 0 r 1 j) (u3 q.1 r 9 p 0 r 3 j) (i_min 999 (q.1 r 9 p + q.2)))) := by
  unfold plS
  dsimp only
  rw [if_pos h, ej, nI_clamp (show j < 2 ^ 31 by omega), if_pos h1]
theorem plS_wall {Lr : tR} {z : Nat → Nat} {r : Nat} {s : Int32} {p : Nat} {q : (Nat → tR) × Int32} {j : Nat} (h : 0 ≤ 2 * nI p + s ∧ 2 * nI p + s < u3 q.1 r 9 p 0 r 12 0) (ej : 2 * nI p + s = nI j) (hj : j < 12) (h1 : ¬ u3 q.1 r 9 p 0 r 6 j = 1) : plS Lr z r s p q = (u3 (u3 (u3 q.1 r 9 p 0) r 2 j (i_min 999 (u3 q.1 r 9 p 0 r 2 j + i_min 999 (q.1 r 9 p + q.2) - i_min (u3 q.1 r 9 p 0 r 4 j) (i_min 999 (q.1 r 9 p + q.2))))) r 12 5 (u3 q.1 r 9 p 0 r 12 5 + i_min (u3 q.1 r 9 p 0 r 4 j) (i_min 999 (q.1 r 9 p + q.2))), 0) := by
  unfold plS
  dsimp only
  rw [if_pos h, ej, nI_clamp (show j < 2 ^ 31 by omega), if_neg h1]
theorem plS_ap (Lr : tR) (z : Nat → Nat) (r : Nat) (s : Int32) (p : Nat) (q : (Nat → tR) × Int32) (r' a b : Nat) (h : ¬ (a = 9 ∨ a = 2 ∨ (a = 12 ∧ b = 5))) : (plS Lr z r s p q).1 r' a b = q.1 r' a b := by
  unfold plS
  dsimp only
  split
  · split
    · show u3 (u3 _ _ _ _ _) _ _ _ _ _ _ _ = _
      rw [u3_ap, if_neg (by omega), u3_ap, if_neg (by omega)]
    · show u3 (u3 (u3 _ _ _ _ _) _ _ _ _) _ _ _ _ _ _ _ = _
      rw [u3_ap, if_neg (by omega), u3_ap, if_neg (by omega), u3_ap, if_neg (by omega)]
  · show u3 (u3 _ _ _ _ _) _ _ _ _ _ _ _ = _
    rw [u3_ap, if_neg (by omega), u3_ap, if_neg (by omega)]
theorem plR_ap (Lr : tR) (z : Nat → Nat) (r : Nat) (s : Int32) (r' a b : Nat) (h : ¬ (a = 9 ∨ a = 2 ∨ (a = 12 ∧ b = 5))) : ∀ (k i : Nat) (q : (Nat → tR) × Int32), (plR Lr z r s k i q).1 r' a b = q.1 r' a b
  | 0, _, _ => rfl
  | k + 1, i, q => (plR_ap Lr z r s r' a b h k (i + 1) _).trans (plS_ap Lr z r s i q r' a b h)
theorem plA_ap (A : Nat → tR) (r : Nat) (Lr : tR) (z : Nat → Nat) (s : Int32) (r' a b : Nat) (h : ¬ (a = 9 ∨ a = 2 ∨ (a = 12 ∧ b = 5))) : plA A r Lr z s r' a b = A r' a b := by
  show u3 _ _ _ _ _ _ _ _ = _
  rw [u3_ap, if_neg (by omega), plR_ap _ _ _ _ _ _ _ h]
theorem lp_66 {d : Nat} {g : mG} {N : Nat} {A T K : Nat → tR} {B : tR} {E : Nat → Int32} {l : Int64} {G : tR} {Qm : Nat → mC} {r : Nat} (hr : r < 3) {t : Nat} (ht : t < 6) {z : Nat → Nat} (hL : Lw (T t) z) {n : Nat} (hn12 : n ≤ 12) (hd : 2 ≤ d) {s : Int32} {Q : Option Value → mM → Prop} : ∀ (k i : Nat) (G : tR) (q : (Nat → tR) × Int32) (a b c : Value), i + k = 6 → q.1 r 12 0 = nI n → (∀ (G' : tR) (a b c : Value), Wp d 66 178 [.ref (rb r), .int s, .ref (lb t), .int (plR (T t) z r s k i q).2, .int (nI 6), a, b, c] [] (N, H3 g (cc (plR (T t) z r s k i q).1 T K B E l G') Qm) Q) → Wp d 66 5 [.ref (rb r), .int s, .ref (lb t), .int q.2, .int (nI i), a, b, c] [] (N, H3 g (cc q.1 T K B E l G) Qm) Q := by
  intro k
  induction k with
  | zero =>
    intro i G q a b c hi hn kk
    obtain rfl : i = 6 := by omega
    refine W_iload d_66_5 rfl ?_
    refine W_aload_n d_66_7 rfl (rb_ne (by assumption)) ?_
    refine W_getf d_66_8 o_66 k_4_17 (h_road (by assumption)) rfl ?_
    refine W_alen (n := 6) (v := 6) d_66_11 ((congrArg mlen (h_lies (by assumption))).trans rfl) (by decide) ?_
    refine W_icmp_ge (tgt := 178) d_66_12 (by decide) (fun h12 => ?_) (fun h12 => absurd (nI_le (a := 6) (b := 6) (by omega) (by omega)) h12)
    exact kk _ _ _ _
  | succ k ih =>
    intro i G q a b c hi hn kk
    have hi6 : i < 6 := by omega
    refine W_iload d_66_5 rfl ?_
    refine W_aload_n d_66_7 rfl (rb_ne (by assumption)) ?_
    refine W_getf d_66_8 o_66 k_4_17 (h_road (by assumption)) rfl ?_
    refine W_alen (n := 6) (v := 6) d_66_11 ((congrArg mlen (h_lies (by assumption))).trans rfl) (by decide) ?_
    refine W_icmp_ge (tgt := 178) d_66_12 (by decide) (fun h12 => absurd h12 (nI_ge (a := i) (b := 6) (by omega) (by omega))) (fun h12 => ?_)
    refine W_sipush d_66_15 (v := 999) (by decide) ?_
    refine W_aload_n d_66_18 rfl (rb_ne (by assumption)) ?_
    refine W_getf d_66_19 o_66 k_4_17 (h_road (by assumption)) rfl ?_
    refine W_iload d_66_22 rfl ?_
    refine W_iald d_66_24 (h_lies (by assumption)) (by decide) (vp_in_nI (by omega) (by decide)) (congrArg _ (nI_clamp (by omega))) ?_
    refine W_iload_n d_66_25 rfl ?_
    refine W_iadd d_66_26 ?_
    refine W_callS d_66_27 o_66 k_4_81 (by omega) x_14 rfl (Nat.le_of_ble_eq_true rfl) ?_
    refine W_istore d_66_30 rfl ?_
    refine W_aload_n d_66_32 rfl (rb_ne (by assumption)) ?_
    refine W_getf d_66_33 o_66 k_4_17 (h_road (by assumption)) rfl ?_
    refine W_iload d_66_36 rfl ?_
    refine W_iconst d_66_38 (v := 0) (by decide) ?_
    refine W_iast d_66_39 (h_lies (by assumption)) (vp_in_nI (by omega) (by decide)) (ms_liesU (by assumption) (nI_clamp (by omega))) ?_
    refine W_iconst d_66_40 (v := 0) (by decide) ?_
    refine W_istore_n d_66_41 rfl ?_
    refine W_iconst d_66_42 (v := 2) (by decide) ?_
    refine W_iload d_66_43 rfl ?_
    refine W_imul d_66_45 ?_
    refine W_iload_n d_66_46 rfl ?_
    refine W_iadd d_66_47 ?_
    refine W_istore d_66_48 rfl ?_
    refine W_aload_n d_66_50 rfl (rb_ne (by assumption)) ?_
    refine W_iload d_66_51 rfl ?_
    refine W_callV d_66_53 o_66 (Or.inl k_4_113) (by omega) (x_56 hr) rfl (mrecv_of (h_road (by assumption)) o_56.symm) rfl (Nat.le_of_ble_eq_true rfl) ?_
    refine W_if_ne (tgt := 73) d_66_56 (by decide) (fun h56 => ?_) (fun h56 => ?_)
    · obtain ⟨j, hj, ej⟩ := own_ix (n := n) (by have q := bI_t h56; rw [u3_ap, if_neg (by omega), hn] at q; exact q) hn12
      have hj12 : j < 12 := by omega
      rw [ej]
      refine W_aload_n d_66_73 rfl (rb_ne (by assumption)) ?_
      refine W_getf d_66_74 o_66 k_4_11 (h_road (by assumption)) rfl ?_
      refine W_iload d_66_77 rfl ?_
      refine W_aald d_66_79 (h_owners (by assumption)) (vp_in_nI (by omega) (by decide)) (owa_v (by omega)) ?_
      refine W_getf d_66_80 o_66 k_4_116 (h_owner (by assumption) (by assumption)) rfl ?_
      refine W_iconst d_66_83 (v := 1) (by decide) ?_
      refine W_icmp_ne (tgt := 151) d_66_84 (by decide) (fun h84 => ?_) (fun h84 => ?_)
      · refine W_aload_n d_66_151 rfl (rb_ne (by assumption)) ?_
        refine W_dup d_66_152 rfl ?_
        refine W_getf d_66_153 o_66 k_4_66 (h_road (by assumption)) rfl ?_
        refine W_aload_n d_66_156 rfl (rb_ne (by assumption)) ?_
        refine W_getf d_66_157 o_66 k_4_11 (h_road (by assumption)) rfl ?_
        refine W_iload d_66_160 rfl ?_
        refine W_aald d_66_162 (h_owners (by assumption)) (vp_in_nI (by omega) (by decide)) (owa_v (by omega)) ?_
        refine W_iload d_66_163 rfl ?_
        refine W_callV d_66_165 o_66 (Or.inl k_4_125) (by omega) (x_30 hr hj12 (by omega)) rfl (mrecv_of (h_owner (by assumption) (by assumption)) o_30.symm) rfl (Nat.le_of_ble_eq_true rfl) ?_
        refine W_iadd d_66_168 ?_
        refine W_putf d_66_169 o_66 k_4_66 (h_road (by assumption)) (Nat.le_of_ble_eq_true rfl) rfl (ms_rd9 (by assumption)) ?_
        refine W_iinc (v := 1) d_66_172 rfl (by decide) rfl ?_
        refine W_goto (tgt := 5) d_66_175 (by decide) ?_
        have h9 := fun G a b c => ih (i + 1) G _ a b c (by omega) ((plS_ap (T t) z r s i q r 12 0 (by omega)).trans hn) kk
        rw [plS_wall (bI_t h56) ej hj12 h84, nI_succ] at h9
        exact h9 _ _ _ _
      · refine W_aload_n d_66_87 rfl (rb_ne (by assumption)) ?_
        refine W_iload d_66_88 rfl ?_
        refine W_aload_n d_66_90 rfl (rb_ne (by assumption)) ?_
        refine W_getf d_66_91 o_66 k_4_11 (h_road (by assumption)) rfl ?_
        refine W_iload d_66_94 rfl ?_
        refine W_aald d_66_96 (h_owners (by assumption)) (vp_in_nI (by omega) (by decide)) (owa_v (by omega)) ?_
        refine W_getf d_66_97 o_66 k_4_119 (h_owner (by assumption) (by assumption)) rfl ?_
        refine W_aload_n d_66_100 rfl (rb_ne (by assumption)) ?_
        refine W_getf d_66_101 o_66 k_4_11 (h_road (by assumption)) rfl ?_
        refine W_iload d_66_104 rfl ?_
        refine W_aald d_66_106 (h_owners (by assumption)) (vp_in_nI (by omega) (by decide)) (owa_v (by omega)) ?_
        refine W_getf d_66_107 o_66 k_4_122 (h_owner (by assumption) (by assumption)) rfl ?_
        refine W_iload d_66_110 rfl ?_
        refine W_callV d_66_112 o_66 (Or.inl k_4_105) (by omega) (x_69 hr) rfl (mrecv_of (h_road (by assumption)) o_69.symm) rfl (Nat.le_of_ble_eq_true rfl) ?_
        refine W_iload d_66_115 rfl ?_
        refine W_aload_n d_66_117 rfl (lb_ne (by assumption)) ?_
        refine W_iconst d_66_118 (v := 2) (by decide) ?_
        refine W_aload_n d_66_119 rfl (rb_ne (by assumption)) ?_
        refine W_getf d_66_120 o_66 k_4_33 (h_road (by assumption)) rfl ?_
        refine W_callVG d_66_123 o_66 (Or.inl k_4_109) (by omega) (x_19w hr ht hL (by omega) (p := 2) (by decide) (fcs_fx _ _ _ _ _ _ _ _)) rfl (mrecv_of (h_law (by assumption)) o_19.symm) rfl (Nat.le_of_ble_eq_true rfl) (fun G' => ?_)
        refine W_callS d_66_126 o_66 k_4_81 (by omega) x_14 rfl (Nat.le_of_ble_eq_true rfl) ?_
        refine W_istore d_66_129 rfl ?_
        refine W_aload_n d_66_131 rfl (rb_ne (by assumption)) ?_
        refine W_dup d_66_132 rfl ?_
        refine W_getf d_66_133 o_66 k_4_66 (h_road (by assumption)) rfl ?_
        refine W_iload d_66_136 rfl ?_
        refine W_iadd d_66_138 ?_
        refine W_putf d_66_139 o_66 k_4_66 (h_road (by assumption)) (Nat.le_of_ble_eq_true rfl) rfl (ms_rd9 (by assumption)) ?_
        refine W_iload d_66_142 rfl ?_
        refine W_iload d_66_144 rfl ?_
        refine W_isub d_66_146 ?_
        refine W_istore_n d_66_147 rfl ?_
        refine W_goto (tgt := 172) d_66_148 (by decide) ?_
        refine W_iinc (v := 1) d_66_172 rfl (by decide) rfl ?_
        refine W_goto (tgt := 5) d_66_175 (by decide) ?_
        have h9 := fun G a b c => ih (i + 1) G _ a b c (by omega) ((plS_ap (T t) z r s i q r 12 0 (by omega)).trans hn) kk
        rw [plS_lift (bI_t h56) ej hj12 h84, nI_succ] at h9
        exact h9 _ _ _ _
    · refine W_aload_n d_66_59 rfl (rb_ne (by assumption)) ?_
      refine W_dup d_66_60 rfl ?_
      refine W_getf d_66_61 o_66 k_4_66 (h_road (by assumption)) rfl ?_
      refine W_iload d_66_64 rfl ?_
      refine W_iadd d_66_66 ?_
      refine W_putf d_66_67 o_66 k_4_66 (h_road (by assumption)) (Nat.le_of_ble_eq_true rfl) rfl (ms_rd9 (by assumption)) ?_
      refine W_goto (tgt := 172) d_66_70 (by decide) ?_
      refine W_iinc (v := 1) d_66_172 rfl (by decide) rfl ?_
      refine W_goto (tgt := 5) d_66_175 (by decide) ?_
      have h9 := fun G a b c => ih (i + 1) G _ a b c (by omega) ((plS_ap (T t) z r s i q r 12 0 (by omega)).trans hn) kk
      rw [plS_out (bI_f h56), nI_succ] at h9
      exact h9 _ _ _ _
theorem x_66 {d : Nat} {g : mG} {N : Nat} {A T K : Nat → tR} {B : tR} {E : Nat → Int32} {l : Int64} {G : tR} {Qm : Nat → mC} {r : Nat} (hr : r < 3) {t : Nat} (ht : t < 6) {z : Nat → Nat} (hL : Lw (T t) z) {n : Nat} (hn : A r 12 0 = nI n) (hn12 : n ≤ 12) {s : Int32} (hd : 2 ≤ d) : ∃ G', Ex d 66 [.ref (rb r), .int s, .ref (lb t)] (N, H3 g (cc A T K B E l G) Qm) none (N, H3 g (cc (plA A r (T t) z s) T K B E l G') Qm) := by
  refine ExG (f := fun G' => (N, H3 g (cc (plA A r (T t) z s) T K B E l G') Qm)) ?_
  show Wp _ 66 0 [.ref (rb r), .int s, .ref (lb t), .null, .null, .null, .null, .null] [] _ _
  refine W_iconst d_66_0 (v := 0) (by decide) ?_
  refine W_istore_n d_66_1 rfl ?_
  refine W_iconst d_66_2 (v := 0) (by decide) ?_
  refine W_istore d_66_3 rfl ?_
  refine lp_66 (A := A) (G := G) hr ht hL hn12 hd 6 0 G (A, 0) _ _ _ (by omega) hn (fun G' a b c => ?_)
  refine W_aload_n d_66_178 rfl (rb_ne (by assumption)) ?_
  refine W_dup d_66_179 rfl ?_
  refine W_getf d_66_180 o_66 k_4_66 (h_road (by assumption)) rfl ?_
  refine W_iload_n d_66_183 rfl ?_
  refine W_iadd d_66_184 ?_
  refine W_putf d_66_185 o_66 k_4_66 (h_road (by assumption)) (Nat.le_of_ble_eq_true rfl) rfl (ms_rd9 (by assumption)) ?_
  refine W_ret d_66_188 rt_66 ?_
  exact ⟨rfl, _, rfl⟩
