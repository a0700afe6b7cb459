/-! TEXTS: the model's words and tokens (wip/whole/gen77.py) -/
def wl : Nat → Nat → Nat → List (Nat × Nat)
  | 0, _, _ => []
  | k + 1, i, a => if Wch i = 32 then (a, i) :: wl k (i + 1) (i + 1) else wl k (i + 1) a
def wfo (q : Nat → Nat → Bool) : List (Nat × Nat) → Nat → Int32 → Int32
  | [], _, t => t
  | x :: r, w, t => wfo q r (w + 1) (cond (q x.1 x.2) (nI w) t)
theorem wsp_wl (q : Nat → Nat → Bool) : ∀ (k i : Nat) (t : Int32) (w a : Nat), wsp q k i t w a = wfo q (wl k i a) w t
  | 0, i, t, w, a => rfl
  | k + 1, i, t, w, a => by
    rw [wsp, wl]
    by_cases h : Wch i = 32
    · rw [if_pos h, if_pos h, wfo]
      exact wsp_wl q k _ _ _ _
    · rw [if_neg h, if_neg h]
      exact wsp_wl q k _ _ _ _
theorem wl_v : wl 61 0 0 = [(0, 5), (6, 11), (12, 17), (18, 20), (21, 24), (25, 28), (29, 33), (34, 38), (39, 43), (44, 48), (49, 53), (54, 60)] := by decide +kernel
theorem wsp_q (q : Nat → Nat → Bool) : wsp q 61 0 (-2) 0 0 = cond (q 54 60) (nI 11) (cond (q 49 53) (nI 10) (cond (q 44 48) (nI 9) (cond (q 39 43) (nI 8) (cond (q 34 38) (nI 7) (cond (q 29 33) (nI 6) (cond (q 25 28) (nI 5) (cond (q 21 24) (nI 4) (cond (q 18 20) (nI 3) (cond (q 12 17) (nI 2) (cond (q 6 11) (nI 1) (cond (q 0 5) (nI 0) (-2)))))))))))) := by
  rw [wsp_wl, wl_v]
  rfl
def MW (f : Nat → Int32) (s e k : Nat) : Prop := e - s ≤ 8 ∧ ∀ c, c < 8 → wdr (8 * k + c) = if s + c < e then f (s + c) else 32
theorem mwx : ∀ k, k < 12 → ∀ m, m < 12 → (∀ c, c < 8 → wdr (8 * k + c) = wdr (8 * m + c)) → k = m := by decide +kernel
section
variable {f : Nat → Int32} {s e : Nat}
theorem MW.one {k m : Nat} (h : MW f s e k) (h' : MW f s e m) (hk : k < 12) (hm : m < 12) : k = m := mwx k hk m hm (fun c hc => (h.2 c hc).trans (h'.2 c hc).symm)
theorem eqw_iff {a : Nat} : ∀ (k i : Nat), eqw f s a k i = true ↔ ∀ c, c < k → Wch (i + c) = f (s + (i + c) - a)
  | 0, i => ⟨fun _ c hc => absurd hc (Nat.not_lt_zero _), fun _ => rfl⟩
  | k + 1, i => by
    rw [eqw]
    by_cases h : Wch i = f (s + i - a)
    · rw [if_pos h, eqw_iff k (i + 1)]
      refine ⟨fun q c hc => ?_, fun q c hc => ?_⟩
      · by_cases e0 : c = 0
        · subst e0
          exact h
        · have := q (c - 1) (by omega)
          rw [show i + 1 + (c - 1) = i + c by omega] at this
          exact this
      · have := q (c + 1) (by omega)
        rw [show i + (c + 1) = i + 1 + c by omega] at this
        exact this
    · rw [if_neg h]
      exact ⟨fun q => absurd q (by decide), fun q => absurd (q 0 (by omega)) h⟩
theorem isw_mw {a b m : Nat} (hab : a ≤ b) (h8 : b - a < 8) (hw : ∀ c, c < 8 → wdr (8 * m + c) = if c < b - a then Wch (a + c) else 32) (hne : ∀ c, c < b - a → ¬ Wch (a + c) = 32) (hse : s ≤ e) (hf : ∀ j, s ≤ j → j < e → ¬ f j = 32) : isw f s e a b = true ↔ MW f s e m := by
  unfold isw
  refine ⟨fun q => ?_, fun q => ?_⟩
  · by_cases h : b - a = e - s
    · rw [if_pos h] at q
      have q2 := (eqw_iff _ _).mp q
      refine ⟨by omega, fun c hc => ?_⟩
      rw [hw c hc]
      by_cases h2 : c < b - a
      · rw [if_pos h2, if_pos (by omega), q2 c h2]
        exact congrArg f (by omega)
      · rw [if_neg h2, if_neg (by omega)]
    · rw [if_neg h] at q
      exact absurd q (by decide)
  · have h : b - a = e - s := by
      rcases Nat.lt_trichotomy (b - a) (e - s) with h | h | h
      · have q2 := q.2 (b - a) (by omega)
        rw [hw _ (by omega), if_neg (by omega), if_pos (by omega)] at q2
        exact absurd q2.symm (hf _ (by omega) (by omega))
      · exact h
      · have q2 := q.2 (e - s) (by omega)
        rw [hw _ (by omega), if_pos h, if_neg (by omega)] at q2
        exact absurd q2 (hne _ h)
    rw [if_pos h]
    refine (eqw_iff _ _).mpr (fun c hc => ?_)
    have q2 := q.2 c (by omega)
    rw [hw _ (by omega), if_pos hc, if_pos (by omega)] at q2
    rw [q2]
    exact congrArg f (by omega)
/-- which of the words it is -/
def KW (f : Nat → Int32) (s e k : Nat) : Prop := k ≤ 12 ∧ (k < 12 → MW f s e k) ∧ (k = 12 → ∀ i, i < 12 → ¬ MW f s e i)
theorem iswk {a b m k : Nat} (hab : a ≤ b) (h8 : b - a < 8) (hw : ∀ c, c < 8 → wdr (8 * m + c) = if c < b - a then Wch (a + c) else 32) (hne : ∀ c, c < b - a → ¬ Wch (a + c) = 32) (hm : m < 12) (hse : s ≤ e) (hf : ∀ j, s ≤ j → j < e → ¬ f j = 32) (hk : KW f s e k) : isw f s e a b = decide (k = m) := by
  have hi := isw_mw hab h8 hw hne hse hf
  by_cases h : k = m
  · rw [decide_eq_true h]
    exact hi.mpr (h ▸ hk.2.1 (by omega))
  · rw [decide_eq_false h]
    cases hq : isw f s e a b with
    | false => rfl
    | true =>
      have q := hi.mp hq
      by_cases h12 : k = 12
      · exact absurd q (hk.2.2 h12 m hm)
      · have := hk.1
        exact absurd ((hk.2.1 (by omega)).one q (by omega) hm) h
def pmt (k : Nat) : Int32 := if k < 3 then nI k else if k < 9 then nI (k + 3) else if k < 12 then nI (k - 6) else -2
theorem wsp_k {k : Nat} (hse : s ≤ e) (hf : ∀ j, s ≤ j → j < e → ¬ f j = 32) (hk : KW f s e k) : wsp (isw f s e) 61 0 (-2) 0 0 = pmt k := by
  rw [wsp_q, iswk (a := 54) (b := 60) (m := 8) (by decide) (by decide) (by decide +kernel) (by decide +kernel) (by decide) hse hf hk, iswk (a := 49) (b := 53) (m := 7) (by decide) (by decide) (by decide +kernel) (by decide +kernel) (by decide) hse hf hk, iswk (a := 44) (b := 48) (m := 6) (by decide) (by decide) (by decide +kernel) (by decide +kernel) (by decide) hse hf hk, iswk (a := 39) (b := 43) (m := 5) (by decide) (by decide) (by decide +kernel) (by decide +kernel) (by decide) hse hf hk, iswk (a := 34) (b := 38) (m := 4) (by decide) (by decide) (by decide +kernel) (by decide +kernel) (by decide) hse hf hk, iswk (a := 29) (b := 33) (m := 3) (by decide) (by decide) (by decide +kernel) (by decide +kernel) (by decide) hse hf hk, iswk (a := 25) (b := 28) (m := 11) (by decide) (by decide) (by decide +kernel) (by decide +kernel) (by decide) hse hf hk, iswk (a := 21) (b := 24) (m := 10) (by decide) (by decide) (by decide +kernel) (by decide +kernel) (by decide) hse hf hk, iswk (a := 18) (b := 20) (m := 9) (by decide) (by decide) (by decide +kernel) (by decide +kernel) (by decide) hse hf hk, iswk (a := 12) (b := 17) (m := 2) (by decide) (by decide) (by decide +kernel) (by decide +kernel) (by decide) hse hf hk, iswk (a := 6) (b := 11) (m := 1) (by decide) (by decide) (by decide +kernel) (by decide +kernel) (by decide) hse hf hk, iswk (a := 0) (b := 5) (m := 0) (by decide) (by decide) (by decide +kernel) (by decide +kernel) (by decide) hse hf hk]
  have hk12 := hk.1
  have : k = 0 ∨ k = 1 ∨ k = 2 ∨ k = 3 ∨ k = 4 ∨ k = 5 ∨ k = 6 ∨ k = 7 ∨ k = 8 ∨ k = 9 ∨ k = 10 ∨ k = 11 ∨ k = 12 := by omega
  rcases this with rfl | rfl | rfl | rfl | rfl | rfl | rfl | rfl | rfl | rfl | rfl | rfl | rfl
  all_goals rfl
end
def mtk (t : Int32) : Int32 := if t = -1 then 0 else if t = -2 then -1 else if 0 ≤ t ∧ t ≤ 2 then 3 else if 6 ≤ t ∧ t ≤ 11 then 2 else if 3 ≤ t ∧ t ≤ 5 then t + 1 else if t = 12 then 1 else t
def vok (t v n : Int32) : Prop := (0 ≤ t ∧ t ≤ 2 → v = t) ∧ (6 ≤ t ∧ t ≤ 11 → v = t - 6) ∧ (t = 12 → v = n)
theorem mtk_pmt : ∀ m, m < 13 → mtk (pmt m) = (if m < 3 then 3 else if m < 9 then 2 else if m = 12 then -1 else nI (4 + m - 9)) ∧ (0 ≤ pmt m ∧ pmt m ≤ 2 → (if m < 3 then nI m else nI m - 3) = pmt m) ∧ (6 ≤ pmt m ∧ pmt m ≤ 11 → (if m < 3 then nI m else nI m - 3) = pmt m - 6) ∧ ¬ pmt m = 12 := by decide +kernel
theorem sgn_b {v : Int32} (h : 0 ≤ v ∧ v ≤ 255) : sgn v = decide (v = 40 ∨ v = 41 ∨ v = 59 ∨ v = 43 ∨ v = 45 ∨ v = 42 ∨ v = 60 ∨ v = 61) := by
  obtain ⟨c, hc, rfl⟩ := nI_of2 (x := v) (M := 255) (n := 255) rfl (Int32.not_lt.mpr h.1) h.2
  have key : ∀ c : Nat, c < 256 → sgn (nI c) = decide (nI c = 40 ∨ nI c = 41 ∨ nI c = 59 ∨ nI c = 43 ∨ nI c = 45 ∨ nI c = 42 ∨ nI c = 60 ∨ nI c = 61) := by decide +kernel
  exact key c (by omega)
theorem mtk_sgn {v : Int32} (h : v = 40 ∨ v = 41 ∨ v = 59 ∨ v = 43 ∨ v = 45 ∨ v = 42 ∨ v = 60 ∨ v = 61) : mtk v = v ∧ ¬ (0 ≤ v ∧ v ≤ 2) ∧ ¬ (6 ≤ v ∧ v ≤ 11) ∧ ¬ v = 12 := by
  rcases h with rfl | rfl | rfl | rfl | rfl | rfl | rfl | rfl <;> decide
/-- the numbers of the model, all but some -/
def Sw (S S' : Nat → Int32) (W : List Nat) : Prop := ∀ c, c ∉ W → S' c = S c
theorem Sw.refl {S : Nat → Int32} {W : List Nat} : Sw S S W := fun _ _ => rfl
theorem Sw.tr {S S1 S2 : Nat → Int32} {W W' V : List Nat} (h : Sw S S1 W) (h2 : Sw S1 S2 W') (hV : ∀ c, c ∉ V → c ∉ W ∧ c ∉ W') : Sw S S2 V := fun c hc => (h2 c (hV c hc).2).trans (h c (hV c hc).1)
theorem Sw.t {S S1 S2 : Nat → Int32} {W : List Nat} (h : Sw S S1 W) (h2 : Sw S1 S2 W) : Sw S S2 W := fun c hc => (h2 c hc).trans (h c hc)
theorem Sw.u {S : Nat → Int32} {c : Nat} {v : Int32} {W : List Nat} (hc : c ∈ W) : Sw S (va_up S c v) W := fun e he => va_oth _ _ (fun q => he (q ▸ hc))
section
variable {d : Nat} {g : mG} {N : Nat} {P : Nat → mC} {Y : tR} {S : Nat → Int32} {sz s e : Nat} {Q : Option Value → mM → Prop}
theorem x_144i {k : Nat} (hw : Y 15 = wdr) (hse : s ≤ e) (he : e ≤ 160) (hk : k < 12) (kk : ∀ (b : Bool) (x : Value), (b = true ↔ MW (Y 6) s e k) → Wp d 144 88 [.ref 92, .int (nI s), .int (nI e), .int (nI k), .int (bI b), x] [] (N, H3 g P (mm Y S)) Q) : ∀ (j c : Nat) (b : Bool), c + j = 8 → (b = true ↔ (e - s ≤ 8 ∧ ∀ i, i < c → wdr (8 * k + i) = if s + i < e then Y 6 (s + i) else 32)) → Wp d 144 26 [.ref 92, .int (nI s), .int (nI e), .int (nI k), .int (bI b), .int (nI c)] [] (N, H3 g P (mm Y S)) Q := by
  intro j
  induction j with
  | zero =>
    intro c b hc hb
    have ec : c = 8 := by omega
    refine W_iload d_144_26 rfl ?_
    refine W_bipush d_144_28 (v := 8) (by decide) ?_
    refine W_icmp_ge (tgt := 88) d_144_30 (by decide) (fun h30 => ?_) (fun h30 => absurd (nI_le (a := 8) (b := c) (by omega) (by omega)) h30)
    exact kk b _ (by subst ec; exact hb)
  | succ j ih =>
    intro c b hc hb
    cases b with
    | false =>
      refine W_iload d_144_26 rfl ?_
      refine W_bipush d_144_28 (v := 8) (by decide) ?_
      refine W_icmp_ge (tgt := 88) d_144_30 (by decide) (fun h30 => absurd h30 (nI_ge (a := c) (b := 8) (by omega) (by omega))) (fun h30 => ?_)
      refine W_iload d_144_33 rfl ?_
      refine W_if_eq (tgt := 88) d_144_35 (by decide) (fun h35 => ?_) (fun h35 => absurd rfl h35)
      exact kk false _ ⟨no_tf, fun q => absurd (hb.mpr ⟨q.1, fun i hi => q.2 i (by omega)⟩) (by decide)⟩
    | true =>
      refine W_iload d_144_26 rfl ?_
      refine W_bipush d_144_28 (v := 8) (by decide) ?_
      refine W_icmp_ge (tgt := 88) d_144_30 (by decide) (fun h30 => absurd h30 (nI_ge (a := c) (b := 8) (by omega) (by omega))) (fun h30 => ?_)
      refine W_iload d_144_33 rfl ?_
      refine W_if_eq (tgt := 88) d_144_35 (by decide) (fun h35 => absurd h35 (by decide)) (fun h35 => ?_)
      refine W_aload_n d_144_38 rfl (by decide) ?_
      refine W_getf d_144_39 o_144 k_7_59 rfl rfl ?_
      refine W_bipush d_144_42 (v := 8) (by decide) ?_
      refine W_iload_n d_144_44 rfl ?_
      refine W_imul d_144_45 ?_
      rw [show ((8 * nI k : Int32)) = nI (8 * k) from pk_mul 8 k]
      refine W_iload d_144_46 rfl ?_
      refine W_iadd d_144_48 ?_
      rw [show ((nI (8 * k) + nI c : Int32)) = nI (8 * k + c) from nI_add (8 * k) c]
      refine W_mld (a := 15) d_144_49 rfl (by decide) (n := 96) rfl (vp_in_nI (by omega) (by decide)) ((congrArg _ (nI_clamp (by omega))).trans (congrFun hw _)) ?_
      refine W_iload_n d_144_50 rfl ?_
      refine W_iload d_144_51 rfl ?_
      refine W_iadd d_144_53 ?_
      rw [show ((nI s + nI c : Int32)) = nI (s + c) from nI_add s c]
      refine W_iload_n d_144_54 rfl ?_
      refine W_icmp_ge (tgt := 70) d_144_55 (by decide) (fun h55 => ?_) (fun h55 => ?_)
      · have q55 : e ≤ s + c := (nI_leI (a := e) (b := s + c) (by omega) (by omega)).mp h55
        refine W_bipush d_144_70 (v := 32) (by decide) ?_
        refine W_icmp_ne (tgt := 79) d_144_72 (by decide) (fun h72 => ?_) (fun h72 => ?_)
        · refine W_iconst d_144_79 (v := 0) (by decide) ?_
          refine W_istore d_144_80 rfl ?_
          refine W_iinc (v := 1) d_144_82 rfl (by decide) rfl ?_
          rw [show ((nI c + 1 : Int32)) = nI (c + 1) from nI_add c 1]
          refine W_goto (tgt := 26) d_144_85 (by decide) ?_
          exact ih (c + 1) false (by omega) ⟨no_tf, fun q => absurd ((q.2 c (Nat.lt_succ_self _)).trans (if_neg (Nat.not_lt.mpr q55))) h72⟩
        · refine W_iconst d_144_75 (v := 1) (by decide) ?_
          refine W_goto (tgt := 80) d_144_76 (by decide) ?_
          refine W_istore d_144_80 rfl ?_
          refine W_iinc (v := 1) d_144_82 rfl (by decide) rfl ?_
          rw [show ((nI c + 1 : Int32)) = nI (c + 1) from nI_add c 1]
          refine W_goto (tgt := 26) d_144_85 (by decide) ?_
          exact ih (c + 1) true (by omega) ⟨fun _ => ⟨(hb.mp rfl).1, fun i hi => (Nat.lt_succ_iff_lt_or_eq.mp hi).elim ((hb.mp rfl).2 i) (fun q => by rw [q]; exact h72.trans (if_neg (Nat.not_lt.mpr q55)).symm)⟩, fun _ => rfl⟩
      · have q55 : ¬ e ≤ s + c := mt (nI_leI (a := e) (b := s + c) (by omega) (by omega)).mpr h55
        refine W_aload_n d_144_58 rfl (by decide) ?_
        refine W_getf d_144_59 o_144 k_7_32 rfl rfl ?_
        refine W_iload_n d_144_62 rfl ?_
        refine W_iload d_144_63 rfl ?_
        refine W_iadd d_144_65 ?_
        rw [show ((nI s + nI c : Int32)) = nI (s + c) from nI_add s c]
        refine W_mld (a := 6) d_144_66 rfl (by decide) (n := 160) rfl (vp_in_nI (by omega) (by decide)) (congrArg _ (nI_clamp (by omega))) ?_
        refine W_goto (tgt := 72) d_144_67 (by decide) ?_
        refine W_icmp_ne (tgt := 79) d_144_72 (by decide) (fun h72 => ?_) (fun h72 => ?_)
        · refine W_iconst d_144_79 (v := 0) (by decide) ?_
          refine W_istore d_144_80 rfl ?_
          refine W_iinc (v := 1) d_144_82 rfl (by decide) rfl ?_
          rw [show ((nI c + 1 : Int32)) = nI (c + 1) from nI_add c 1]
          refine W_goto (tgt := 26) d_144_85 (by decide) ?_
          exact ih (c + 1) false (by omega) ⟨no_tf, fun q => absurd ((q.2 c (Nat.lt_succ_self _)).trans (if_pos (Nat.not_le.mp q55))) h72⟩
        · refine W_iconst d_144_75 (v := 1) (by decide) ?_
          refine W_goto (tgt := 80) d_144_76 (by decide) ?_
          refine W_istore d_144_80 rfl ?_
          refine W_iinc (v := 1) d_144_82 rfl (by decide) rfl ?_
          rw [show ((nI c + 1 : Int32)) = nI (c + 1) from nI_add c 1]
          refine W_goto (tgt := 26) d_144_85 (by decide) ?_
          exact ih (c + 1) true (by omega) ⟨fun _ => ⟨(hb.mp rfl).1, fun i hi => (Nat.lt_succ_iff_lt_or_eq.mp hi).elim ((hb.mp rfl).2 i) (fun q => by rw [q]; exact h72.trans (if_pos (Nat.not_le.mp q55)).symm)⟩, fun _ => rfl⟩
theorem x_144l (hw : Y 15 = wdr) (hse : s ≤ e) (he : e ≤ 160) : ∀ (j k : Nat), k + j = 12 → (∀ i, i < k → ¬ MW (Y 6) s e i) → ∀ (x y : Value), Wp d 144 2 [.ref 92, .int (nI s), .int (nI e), .int (nI k), x, y] [] (N, H3 g P (mm Y S)) (fun v M => ∃ m, v = some (.int (nI m)) ∧ KW (Y 6) s e m ∧ M = (N, H3 g P (mm Y S))) := by
  intro j
  induction j with
  | zero =>
    intro k hk hb x y
    have ek : k = 12 := by omega
    refine W_iload_n d_144_2 rfl ?_
    refine W_bipush d_144_3 (v := 12) (by decide) ?_
    refine W_icmp_ge (tgt := 101) d_144_5 (by decide) (fun h5 => ?_) (fun h5 => absurd (nI_le (a := 12) (b := k) (by omega) (by omega)) h5)
    refine W_bipush d_144_101 (v := 12) (by decide) ?_
    refine W_iret d_144_103 rt_144 rfl ?_
    exact ⟨12, rfl, ⟨Nat.le_refl _, fun q => absurd q (by decide), fun _ i hi => hb i (by omega)⟩, rfl⟩
  | succ j ih =>
    intro k hk hb x y
    have kc : ∀ (b : Bool) (x : Value), (b = true ↔ MW (Y 6) s e k) → Wp d 144 88 [.ref 92, .int (nI s), .int (nI e), .int (nI k), .int (bI b), x] [] (N, H3 g P (mm Y S)) (fun v M => ∃ m, v = some (.int (nI m)) ∧ KW (Y 6) s e m ∧ M = (N, H3 g P (mm Y S))) := by
      intro b x hm
      cases b with
      | false =>
        refine W_iload d_144_88 rfl ?_
        refine W_if_eq (tgt := 95) d_144_90 (by decide) (fun h90 => ?_) (fun h90 => absurd rfl h90)
        refine W_iinc (v := 1) d_144_95 rfl (by decide) rfl ?_
        rw [show ((nI k + 1 : Int32)) = nI (k + 1) from nI_add k 1]
        refine W_goto (tgt := 2) d_144_98 (by decide) ?_
        exact ih (k + 1) (by omega) (fun i hi => (Nat.lt_succ_iff_lt_or_eq.mp hi).elim (hb i) (fun q => by rw [q]; exact fun r => absurd (hm.mpr r) (by decide))) _ _
      | true =>
        refine W_iload d_144_88 rfl ?_
        refine W_if_eq (tgt := 95) d_144_90 (by decide) (fun h90 => absurd h90 (by decide)) (fun h90 => ?_)
        refine W_iload_n d_144_93 rfl ?_
        refine W_iret d_144_94 rt_144 rfl ?_
        exact ⟨k, rfl, ⟨by omega, fun _ => hm.mp rfl, fun q => absurd q (by omega)⟩, rfl⟩
    refine W_iload_n d_144_2 rfl ?_
    refine W_bipush d_144_3 (v := 12) (by decide) ?_
    refine W_icmp_ge (tgt := 101) d_144_5 (by decide) (fun h5 => absurd h5 (nI_ge (a := k) (b := 12) (by omega) (by omega))) (fun h5 => ?_)
    refine W_iload_n d_144_8 rfl ?_
    refine W_iload_n d_144_9 rfl ?_
    refine W_isub d_144_10 ?_
    rw [show ((nI e - nI s : Int32)) = nI (e - s) from pk_sub (a := e) (b := s) (by omega)]
    refine W_bipush d_144_11 (v := 8) (by decide) ?_
    refine W_icmp_gt (tgt := 20) d_144_13 (by decide) (fun h13 => ?_) (fun h13 => ?_)
    · have q13 : 8 < e - s := (nI_ltI (a := 8) (b := e - s) (by omega) (by omega)).mp h13
      refine W_iconst d_144_20 (v := 0) (by decide) ?_
      refine W_istore d_144_21 rfl ?_
      refine W_iconst d_144_23 (v := 0) (by decide) ?_
      refine W_istore d_144_24 rfl ?_
      refine x_144i hw hse he (by omega) (fun b x hm => ?_) 8 0 false (by omega) ⟨no_tf, fun q => absurd q.1 (by omega)⟩
      exact kc b x hm
    · have q13 : ¬ 8 < e - s := mt (nI_ltI (a := 8) (b := e - s) (by omega) (by omega)).mpr h13
      refine W_iconst d_144_16 (v := 1) (by decide) ?_
      refine W_goto (tgt := 21) d_144_17 (by decide) ?_
      refine W_istore d_144_21 rfl ?_
      refine W_iconst d_144_23 (v := 0) (by decide) ?_
      refine W_istore d_144_24 rfl ?_
      refine x_144i hw hse he (by omega) (fun b x hm => ?_) 8 0 true (by omega) ⟨fun _ => ⟨by omega, fun i hi => absurd hi (Nat.not_lt_zero _)⟩, fun _ => rfl⟩
      exact kc b x hm
theorem x_144 (hw : Y 15 = wdr) (hse : s ≤ e) (he : e ≤ 160) : Wp d 144 0 (ment 144 [.ref 92, .int (nI s), .int (nI e)]) [] (N, H3 g P (mm Y S)) (fun v M => ∃ m, v = some (.int (nI m)) ∧ KW (Y 6) s e m ∧ M = (N, H3 g P (mm Y S))) := by
  show Wp _ 144 0 [.ref 92, .int (nI s), .int (nI e), .null, .null, .null] [] _ _
  refine W_iconst d_144_0 (v := 0) (by decide) ?_
  refine W_istore_n d_144_1 rfl ?_
  exact x_144l hw hse he 12 0 (by omega) (fun i hi => absurd hi (Nat.not_lt_zero _)) _ _
theorem x_145l (hd : 1 ≤ d) (hz : sz ≤ 160) {x y : Value} : ∀ (k i : Nat) (S : Nat → Int32), S 11 = nI sz → S 23 = nI i → i + k = sz → (∀ S', Sw S S' [23] → S' 23 = nI (spn pbl (Y 6) k i) → Wp d 145 52 [.ref 92, x, y] [] (N, H3 g P (mm Y S')) Q) → Wp d 145 0 [.ref 92, x, y] [] (N, H3 g P (mm Y S)) Q := by
  intro k
  induction k with
  | zero =>
    intro i S htp hat hi kk
    have ei : i = sz := by omega
    refine W_aload_n d_145_0 rfl (by decide) ?_
    refine W_getf d_145_1 o_145 k_7_116 rfl rfl ?_
    rw [hat]
    refine W_aload_n d_145_4 rfl (by decide) ?_
    refine W_getf d_145_5 o_145 k_7_86 rfl rfl ?_
    rw [htp]
    refine W_icmp_ge (tgt := 52) d_145_8 (by decide) (fun h8 => ?_) (fun h8 => absurd (nI_le (a := sz) (b := i) (by omega) (by omega)) h8)
    exact kk S Sw.refl hat
  | succ k ih =>
    intro i S htp hat hi kk
    have hno : pbl (Y 6 i) = false → Wp d 145 52 [.ref 92, x, y] [] (N, H3 g P (mm Y S)) Q := fun q => kk S Sw.refl (hat.trans (congrArg nI (show i = spn pbl (Y 6) (k + 1) i from by rw [spn, q]; rfl)))
    have hgo : pbl (Y 6 i) = true → Wp d 145 0 [.ref 92, x, y] [] (N, H3 g P (mm Y (va_up S 23 (nI (i + 1))))) Q := fun q => by
      have hr : Sw S (va_up S 23 (nI (i + 1))) [23] := Sw.u (by decide)
      refine ih (i + 1) _ ((hr 11 (by decide)).trans htp) (va_same _ _ _) (by omega) (fun S' h1 h2 => kk S' (hr.t h1) ?_)
      rw [h2, show spn pbl (Y 6) (k + 1) i = spn pbl (Y 6) k (i + 1) from by rw [spn, q]; rfl]
    refine W_aload_n d_145_0 rfl (by decide) ?_
    refine W_getf d_145_1 o_145 k_7_116 rfl rfl ?_
    rw [hat]
    refine W_aload_n d_145_4 rfl (by decide) ?_
    refine W_getf d_145_5 o_145 k_7_86 rfl rfl ?_
    rw [htp]
    refine W_icmp_ge (tgt := 52) d_145_8 (by decide) (fun h8 => absurd h8 (nI_ge (a := i) (b := sz) (by omega) (by omega))) (fun h8 => ?_)
    refine W_aload_n d_145_11 rfl (by decide) ?_
    refine W_getf d_145_12 o_145 k_7_32 rfl rfl ?_
    refine W_aload_n d_145_15 rfl (by decide) ?_
    refine W_getf d_145_16 o_145 k_7_116 rfl rfl ?_
    rw [hat]
    refine W_mld (a := 6) d_145_19 rfl (by decide) (n := 160) rfl (vp_in_nI (by omega) (by decide)) (congrArg _ (nI_clamp (by omega))) ?_
    refine W_bipush d_145_20 (v := 32) (by decide) ?_
    refine W_icmp_eq (tgt := 39) d_145_22 (by decide) (fun h22 => ?_) (fun h22 => ?_)
    · refine W_aload_n d_145_39 rfl (by decide) ?_
      refine W_dup d_145_40 rfl ?_
      refine W_getf d_145_41 o_145 k_7_116 rfl rfl ?_
      rw [hat]
      refine W_iconst d_145_44 (v := 1) (by decide) ?_
      refine W_iadd d_145_45 ?_
      rw [show ((nI i + 1 : Int32)) = nI (i + 1) from nI_add i 1]
      refine W_putf d_145_46 o_145 k_7_116 rfl (Nat.le_of_ble_eq_true rfl) rfl mm_s23 ?_
      refine W_goto (tgt := 0) d_145_49 (by decide) ?_
      exact hgo (decide_eq_true (Or.inl h22))
    · refine W_aload_n d_145_25 rfl (by decide) ?_
      refine W_getf d_145_26 o_145 k_7_32 rfl rfl ?_
      refine W_aload_n d_145_29 rfl (by decide) ?_
      refine W_getf d_145_30 o_145 k_7_116 rfl rfl ?_
      rw [hat]
      refine W_mld (a := 6) d_145_33 rfl (by decide) (n := 160) rfl (vp_in_nI (by omega) (by decide)) (congrArg _ (nI_clamp (by omega))) ?_
      refine W_bipush d_145_34 (v := 10) (by decide) ?_
      refine W_icmp_ne (tgt := 52) d_145_36 (by decide) (fun h36 => ?_) (fun h36 => ?_)
      · exact hno (decide_eq_false (fun q => q.elim h22 h36))
      · refine W_aload_n d_145_39 rfl (by decide) ?_
        refine W_dup d_145_40 rfl ?_
        refine W_getf d_145_41 o_145 k_7_116 rfl rfl ?_
        rw [hat]
        refine W_iconst d_145_44 (v := 1) (by decide) ?_
        refine W_iadd d_145_45 ?_
        rw [show ((nI i + 1 : Int32)) = nI (i + 1) from nI_add i 1]
        refine W_putf d_145_46 o_145 k_7_116 rfl (Nat.le_of_ble_eq_true rfl) rfl mm_s23 ?_
        refine W_goto (tgt := 0) d_145_49 (by decide) ?_
        exact hgo (decide_eq_true (Or.inr h36))
theorem x_145w (hd : 1 ≤ d) (hz : sz ≤ 160) {x y : Value} : ∀ (k i : Nat) (S : Nat → Int32), S 11 = nI sz → S 23 = nI i → i + k = sz → (∀ S', Sw S S' [23] → S' 23 = nI (spn plt (Y 6) k i) → Wp d 145 146 [.ref 92, x, y] [] (N, H3 g P (mm Y S')) Q) → Wp d 145 103 [.ref 92, x, y] [] (N, H3 g P (mm Y S)) Q := by
  intro k
  induction k with
  | zero =>
    intro i S htp hat hi kk
    have ei : i = sz := by omega
    refine W_aload_n d_145_103 rfl (by decide) ?_
    refine W_getf d_145_104 o_145 k_7_116 rfl rfl ?_
    rw [hat]
    refine W_aload_n d_145_107 rfl (by decide) ?_
    refine W_getf d_145_108 o_145 k_7_86 rfl rfl ?_
    rw [htp]
    refine W_icmp_ge (tgt := 146) d_145_111 (by decide) (fun h111 => ?_) (fun h111 => absurd (nI_le (a := sz) (b := i) (by omega) (by omega)) h111)
    exact kk S Sw.refl hat
  | succ k ih =>
    intro i S htp hat hi kk
    have hno : plt (Y 6 i) = false → Wp d 145 146 [.ref 92, x, y] [] (N, H3 g P (mm Y S)) Q := fun q => kk S Sw.refl (hat.trans (congrArg nI (show i = spn plt (Y 6) (k + 1) i from by rw [spn, q]; rfl)))
    have hgo : plt (Y 6 i) = true → Wp d 145 103 [.ref 92, x, y] [] (N, H3 g P (mm Y (va_up S 23 (nI (i + 1))))) Q := fun q => by
      have hr : Sw S (va_up S 23 (nI (i + 1))) [23] := Sw.u (by decide)
      refine ih (i + 1) _ ((hr 11 (by decide)).trans htp) (va_same _ _ _) (by omega) (fun S' h1 h2 => kk S' (hr.t h1) ?_)
      rw [h2, show spn plt (Y 6) (k + 1) i = spn plt (Y 6) k (i + 1) from by rw [spn, q]; rfl]
    refine W_aload_n d_145_103 rfl (by decide) ?_
    refine W_getf d_145_104 o_145 k_7_116 rfl rfl ?_
    rw [hat]
    refine W_aload_n d_145_107 rfl (by decide) ?_
    refine W_getf d_145_108 o_145 k_7_86 rfl rfl ?_
    rw [htp]
    refine W_icmp_ge (tgt := 146) d_145_111 (by decide) (fun h111 => absurd h111 (nI_ge (a := i) (b := sz) (by omega) (by omega))) (fun h111 => ?_)
    refine W_aload_n d_145_114 rfl (by decide) ?_
    refine W_getf d_145_115 o_145 k_7_32 rfl rfl ?_
    refine W_aload_n d_145_118 rfl (by decide) ?_
    refine W_getf d_145_119 o_145 k_7_116 rfl rfl ?_
    rw [hat]
    refine W_mld (a := 6) d_145_122 rfl (by decide) (n := 160) rfl (vp_in_nI (by omega) (by decide)) (congrArg _ (nI_clamp (by omega))) ?_
    refine W_bipush d_145_123 (v := 97) (by decide) ?_
    refine W_bipush d_145_125 (v := 122) (by decide) ?_
    refine W_callS d_145_127 o_145 k_7_96 (by omega) x_135 rfl (Nat.le_of_ble_eq_true rfl) ?_
    refine W_if_eq (tgt := 146) d_145_130 (by decide) (fun h130 => ?_) (fun h130 => ?_)
    · exact hno (decide_eq_false (bI_f h130))
    · refine W_aload_n d_145_133 rfl (by decide) ?_
      refine W_dup d_145_134 rfl ?_
      refine W_getf d_145_135 o_145 k_7_116 rfl rfl ?_
      rw [hat]
      refine W_iconst d_145_138 (v := 1) (by decide) ?_
      refine W_iadd d_145_139 ?_
      rw [show ((nI i + 1 : Int32)) = nI (i + 1) from nI_add i 1]
      refine W_putf d_145_140 o_145 k_7_116 rfl (Nat.le_of_ble_eq_true rfl) rfl mm_s23 ?_
      refine W_goto (tgt := 103) d_145_143 (by decide) ?_
      exact hgo (decide_eq_true (bI_t h130))
theorem x_145n (hd : 1 ≤ d) (hz : sz ≤ 160) {x : Int32} : ∀ (k i n : Nat) (S : Nat → Int32), S 11 = nI sz → S 23 = nI i → i + k = sz → n ≤ i → (∀ S', Sw S S' [23, 26] → S' 23 = nI (spn pdg (Y 6) k i) → (n + (spn pdg (Y 6) k i - i) ≤ 4 → S' 26 = num (Y 6) k i (S 26)) → Wp d 145 309 [.ref 92, .int x, .int (nI (n + (spn pdg (Y 6) k i - i)))] [] (N, H3 g P (mm Y S')) Q) → Wp d 145 230 [.ref 92, .int x, .int (nI n)] [] (N, H3 g P (mm Y S)) Q := by
  intro k
  induction k with
  | zero =>
    intro i n S htp hat hi hni kk
    have ei : i = sz := by omega
    refine W_aload_n d_145_230 rfl (by decide) ?_
    refine W_getf d_145_231 o_145 k_7_116 rfl rfl ?_
    rw [hat]
    refine W_aload_n d_145_234 rfl (by decide) ?_
    refine W_getf d_145_235 o_145 k_7_86 rfl rfl ?_
    rw [htp]
    refine W_icmp_ge (tgt := 309) d_145_238 (by decide) (fun h238 => ?_) (fun h238 => absurd (nI_le (a := sz) (b := i) (by omega) (by omega)) h238)
    have h := kk S Sw.refl hat (fun _ => rfl)
    rw [show n + (spn pdg (Y 6) 0 i - i) = n by rw [spn]; omega] at h
    exact h
  | succ k ih =>
    intro i n S htp hat hi hni kk
    refine W_aload_n d_145_230 rfl (by decide) ?_
    refine W_getf d_145_231 o_145 k_7_116 rfl rfl ?_
    rw [hat]
    refine W_aload_n d_145_234 rfl (by decide) ?_
    refine W_getf d_145_235 o_145 k_7_86 rfl rfl ?_
    rw [htp]
    refine W_icmp_ge (tgt := 309) d_145_238 (by decide) (fun h238 => absurd h238 (nI_ge (a := i) (b := sz) (by omega) (by omega))) (fun h238 => ?_)
    refine W_aload_n d_145_241 rfl (by decide) ?_
    refine W_getf d_145_242 o_145 k_7_32 rfl rfl ?_
    refine W_aload_n d_145_245 rfl (by decide) ?_
    refine W_getf d_145_246 o_145 k_7_116 rfl rfl ?_
    rw [hat]
    refine W_mld (a := 6) d_145_249 rfl (by decide) (n := 160) rfl (vp_in_nI (by omega) (by decide)) (congrArg _ (nI_clamp (by omega))) ?_
    refine W_bipush d_145_250 (v := 48) (by decide) ?_
    refine W_bipush d_145_252 (v := 57) (by decide) ?_
    refine W_callS d_145_254 o_145 k_7_96 (by omega) x_135 rfl (Nat.le_of_ble_eq_true rfl) ?_
    refine W_if_eq (tgt := 309) d_145_257 (by decide) (fun h257 => ?_) (fun h257 => ?_)
    · have q : pdg (Y 6 i) = false := decide_eq_false (bI_f h257)
      have e1 : spn pdg (Y 6) (k + 1) i = i := by rw [spn, q]; rfl
      rw [e1] at kk
      have h := kk S Sw.refl hat (fun _ => by rw [num, q, cond_false])
      rw [show n + (i - i) = n by omega] at h
      exact h
    · refine W_aload_n d_145_260 rfl (by decide) ?_
      refine W_iload_n d_145_261 rfl ?_
      refine W_iconst d_145_262 (v := 4) (by decide) ?_
      refine W_icmp_ge (tgt := 289) d_145_263 (by decide) (fun h263 => ?_) (fun h263 => ?_)
      · have q263 : 4 ≤ n := (nI_leI (a := 4) (b := n) (by omega) (by omega)).mp h263
        refine W_iconst d_145_289 (v := 0) (by decide) ?_
        refine W_putf d_145_290 o_145 k_7_125 rfl (Nat.le_of_ble_eq_true rfl) rfl mm_s26 ?_
        refine W_iinc (v := 1) d_145_293 rfl (by decide) rfl ?_
        rw [show ((nI n + 1 : Int32)) = nI (n + 1) from nI_add n 1]
        refine W_aload_n d_145_296 rfl (by decide) ?_
        refine W_dup d_145_297 rfl ?_
        refine W_getf d_145_298 o_145 k_7_116 rfl rfl ?_
        rw [va_oth _ _ (by decide), hat]
        refine W_iconst d_145_301 (v := 1) (by decide) ?_
        refine W_iadd d_145_302 ?_
        rw [show ((nI i + 1 : Int32)) = nI (i + 1) from nI_add i 1]
        refine W_putf d_145_303 o_145 k_7_116 rfl (Nat.le_of_ble_eq_true rfl) rfl mm_s23 ?_
        refine W_goto (tgt := 230) d_145_306 (by decide) ?_
        have q : pdg (Y 6 i) = true := decide_eq_true (bI_t h257)
        have e1 : spn pdg (Y 6) (k + 1) i = spn pdg (Y 6) k (i + 1) := by rw [spn, q]; rfl
        have hg := spn_ge pdg (Y 6) k (i + 1)
        have hr : Sw S (va_up (va_up S 26 0) 23 (nI (i + 1))) [23, 26] := (Sw.u (by decide)).t (Sw.u (by decide))
        have h26 : va_up (va_up S 26 0) 23 (nI (i + 1)) 26 = 0 := (va_oth _ _ (by decide)).trans (va_same _ _ _)
        refine ih (i + 1) (n + 1) _ ((hr 11 (by decide)).trans htp) (va_same _ _ _) (by omega) (by omega) (fun S' h1 h2 h3 => ?_)
        rw [e1] at kk
        have hv : n + (spn pdg (Y 6) k (i + 1) - i) ≤ 4 → S' 26 = num (Y 6) (k + 1) i (S 26) := fun hn => by
          omega
        have h := kk S' (hr.t h1) h2 hv
        rw [show n + (spn pdg (Y 6) k (i + 1) - i) = n + 1 + (spn pdg (Y 6) k (i + 1) - (i + 1)) by omega] at h
        exact h
      · have q263 : ¬ 4 ≤ n := mt (nI_leI (a := 4) (b := n) (by omega) (by omega)).mpr h263
        refine W_bipush d_145_266 (v := 10) (by decide) ?_
        refine W_aload_n d_145_268 rfl (by decide) ?_
        refine W_getf d_145_269 o_145 k_7_125 rfl rfl ?_
        refine W_imul d_145_272 ?_
        refine W_aload_n d_145_273 rfl (by decide) ?_
        refine W_getf d_145_274 o_145 k_7_32 rfl rfl ?_
        refine W_aload_n d_145_277 rfl (by decide) ?_
        refine W_getf d_145_278 o_145 k_7_116 rfl rfl ?_
        rw [hat]
        refine W_mld (a := 6) d_145_281 rfl (by decide) (n := 160) rfl (vp_in_nI (by omega) (by decide)) (congrArg _ (nI_clamp (by omega))) ?_
        refine W_iadd d_145_282 ?_
        refine W_bipush d_145_283 (v := 48) (by decide) ?_
        refine W_isub d_145_285 ?_
        refine W_goto (tgt := 290) d_145_286 (by decide) ?_
        refine W_putf d_145_290 o_145 k_7_125 rfl (Nat.le_of_ble_eq_true rfl) rfl mm_s26 ?_
        refine W_iinc (v := 1) d_145_293 rfl (by decide) rfl ?_
        rw [show ((nI n + 1 : Int32)) = nI (n + 1) from nI_add n 1]
        refine W_aload_n d_145_296 rfl (by decide) ?_
        refine W_dup d_145_297 rfl ?_
        refine W_getf d_145_298 o_145 k_7_116 rfl rfl ?_
        rw [va_oth _ _ (by decide), hat]
        refine W_iconst d_145_301 (v := 1) (by decide) ?_
        refine W_iadd d_145_302 ?_
        rw [show ((nI i + 1 : Int32)) = nI (i + 1) from nI_add i 1]
        refine W_putf d_145_303 o_145 k_7_116 rfl (Nat.le_of_ble_eq_true rfl) rfl mm_s23 ?_
        refine W_goto (tgt := 230) d_145_306 (by decide) ?_
        have q : pdg (Y 6 i) = true := decide_eq_true (bI_t h257)
        have e1 : spn pdg (Y 6) (k + 1) i = spn pdg (Y 6) k (i + 1) := by rw [spn, q]; rfl
        have hg := spn_ge pdg (Y 6) k (i + 1)
        have hr : Sw S (va_up (va_up S 26 (10 * S 26 + Y 6 i - 48)) 23 (nI (i + 1))) [23, 26] := (Sw.u (by decide)).t (Sw.u (by decide))
        have h26 : va_up (va_up S 26 (10 * S 26 + Y 6 i - 48)) 23 (nI (i + 1)) 26 = (10 * S 26 + Y 6 i - 48) := (va_oth _ _ (by decide)).trans (va_same _ _ _)
        refine ih (i + 1) (n + 1) _ ((hr 11 (by decide)).trans htp) (va_same _ _ _) (by omega) (by omega) (fun S' h1 h2 h3 => ?_)
        rw [e1] at kk
        have hv : n + (spn pdg (Y 6) k (i + 1) - i) ≤ 4 → S' 26 = num (Y 6) (k + 1) i (S 26) := fun hn => by
          rw [h3 (by omega), h26, num, q, cond_true, Int32.mul_comm 10]
        have h := kk S' (hr.t h1) h2 hv
        rw [show n + (spn pdg (Y 6) k (i + 1) - i) = n + 1 + (spn pdg (Y 6) k (i + 1) - (i + 1)) by omega] at h
        exact h
theorem x_145d (hd : 1 ≤ d) (hw : Y 15 = wdr) (hz : sz ≤ 160) {x : Int32} {y : Value} (hs : s < sz) (hl : plt (Y 6 s) = true) (he : e = spn plt (Y 6) (sz - s) s) (hat : S 23 = nI e) (htp : S 11 = nI sz) (hbg : S 24 = nI s) : Wp d 145 146 [.ref 92, .int x, y] [] (N, H3 g P (mm Y S)) (fun v M => v = none ∧ ∃ S', M = (N, H3 g P (mm Y S')) ∧ Sw S S' [23, 24, 25, 26] ∧ S' 24 = nI s ∧ S' 23 = nI (ten (Y 6) sz s) ∧ S' 25 = mtk (tok (Y 6) sz s) ∧ vok (tok (Y 6) sz s) (S' 26) (num (Y 6) (sz - s) s 0)) := by
  have hg := spn_ge plt (Y 6) (sz - s) s
  have hse : s ≤ e := by omega
  have hten : ten (Y 6) sz s = e := by
    unfold ten
    rw [if_neg (by omega), hl, cond_true, he]
  have htk : ∀ m, KW (Y 6) s e m → tok (Y 6) sz s = pmt m := fun m hm => by
    unfold tok
    rw [if_neg (by omega), hl, cond_true, ← he]
    refine wsp_k hse (fun j h1 h2 q => ?_) hm
    have := spn_in plt (Y 6) (sz - s) s j h1 (by rw [← he]; exact h2)
    rw [q] at this
    exact absurd this (by decide)
  refine W_aload_n d_145_146 rfl (by decide) ?_
  refine W_aload_n d_145_147 rfl (by decide) ?_
  refine W_getf d_145_148 o_145 k_7_119 rfl rfl ?_
  rw [hbg]
  refine W_aload_n d_145_151 rfl (by decide) ?_
  refine W_getf d_145_152 o_145 k_7_116 rfl rfl ?_
  rw [hat]
  refine W_callVQ d_145_155 o_145 (Or.inl k_7_128) (by omega) (x_144 hw hse (by omega)) rfl (mrecv_of rfl o_144.symm) rfl (Nat.le_of_ble_eq_true rfl) ?_
  rintro _ _ ⟨m, rfl, hk0, rfl⟩
  have hm12 := hk0.1
  have htok : tok (Y 6) sz s = pmt m := htk m hk0
  refine W_istore_n d_145_158 rfl ?_
  refine W_aload_n d_145_159 rfl (by decide) ?_
  refine W_iload_n d_145_160 rfl ?_
  refine W_iconst d_145_161 (v := 3) (by decide) ?_
  refine W_icmp_ge (tgt := 169) d_145_162 (by decide) (fun h162 => ?_) (fun h162 => ?_)
  · have q162 : 3 ≤ m := (nI_leI (a := 3) (b := m) (by omega) (by omega)).mp h162
    refine W_iload_n d_145_169 rfl ?_
    refine W_bipush d_145_170 (v := 9) (by decide) ?_
    refine W_icmp_ge (tgt := 179) d_145_172 (by decide) (fun h172 => ?_) (fun h172 => ?_)
    · have q172 : 9 ≤ m := (nI_leI (a := 9) (b := m) (by omega) (by omega)).mp h172
      refine W_iload_n d_145_179 rfl ?_
      refine W_bipush d_145_180 (v := 12) (by decide) ?_
      refine W_icmp_ne (tgt := 189) d_145_182 (by decide) (fun h182 => ?_) (fun h182 => ?_)
      · have q182 : ¬ m = 12 := mt (nI_eq (a := m) (b := 12) (by omega) (by omega)).mpr h182
        refine W_iconst d_145_189 (v := 4) (by decide) ?_
        refine W_iload_n d_145_190 rfl ?_
        refine W_iadd d_145_191 ?_
        rw [show ((4 + nI m : Int32)) = nI (4 + m) from nI_add 4 m]
        refine W_bipush d_145_192 (v := 9) (by decide) ?_
        refine W_isub d_145_194 ?_
        rw [show ((nI (4 + m) - 9 : Int32)) = nI ((4 + m) - 9) from pk_sub (a := 4 + m) (b := 9) (by omega)]
        refine W_putf d_145_195 o_145 k_7_122 rfl (Nat.le_of_ble_eq_true rfl) rfl mm_s25 ?_
        refine W_aload_n d_145_198 rfl (by decide) ?_
        refine W_iload_n d_145_199 rfl ?_
        refine W_iconst d_145_200 (v := 3) (by decide) ?_
        refine W_icmp_ge (tgt := 208) d_145_201 (by decide) (fun h201 => ?_) (fun h201 => absurd (nI_le (a := 3) (b := m) (by omega) (by omega)) h201)
        refine W_iload_n d_145_208 rfl ?_
        refine W_iconst d_145_209 (v := 3) (by decide) ?_
        refine W_isub d_145_210 ?_
        refine W_putf d_145_211 o_145 k_7_125 rfl (Nat.le_of_ble_eq_true rfl) rfl mm_s26 ?_
        refine W_goto (tgt := 403) d_145_214 (by decide) ?_
        refine W_ret d_145_403 rt_145 ?_
        have hk := mtk_pmt m (by omega)
        refine ⟨rfl, _, rfl, (Sw.u (by decide)).t (Sw.u (by decide)), ?_, ?_, ?_, ?_⟩
        · rw [va_oth _ _ (by decide), va_oth _ _ (by decide), hbg]
        · rw [va_oth _ _ (by decide), va_oth _ _ (by decide), hat, hten]
        · rw [va_oth _ _ (by decide), va_same, htok, hk.1, if_neg (by omega), if_neg (by omega), if_neg (by omega)]
        · rw [va_same, htok]
          have k1 := hk.2.1
          have k2 := hk.2.2.1
          rw [if_neg (by omega)] at k1 k2
          exact ⟨k1, k2, fun q => absurd q hk.2.2.2⟩
      · have q182 : m = 12 := (nI_eq (a := m) (b := 12) (by omega) (by omega)).mp h182
        refine W_iconst d_145_185 (v := (-1)) (by decide) ?_
        refine W_goto (tgt := 195) d_145_186 (by decide) ?_
        refine W_putf d_145_195 o_145 k_7_122 rfl (Nat.le_of_ble_eq_true rfl) rfl mm_s25 ?_
        refine W_aload_n d_145_198 rfl (by decide) ?_
        refine W_iload_n d_145_199 rfl ?_
        refine W_iconst d_145_200 (v := 3) (by decide) ?_
        refine W_icmp_ge (tgt := 208) d_145_201 (by decide) (fun h201 => ?_) (fun h201 => absurd (nI_le (a := 3) (b := m) (by omega) (by omega)) h201)
        refine W_iload_n d_145_208 rfl ?_
        refine W_iconst d_145_209 (v := 3) (by decide) ?_
        refine W_isub d_145_210 ?_
        refine W_putf d_145_211 o_145 k_7_125 rfl (Nat.le_of_ble_eq_true rfl) rfl mm_s26 ?_
        refine W_goto (tgt := 403) d_145_214 (by decide) ?_
        refine W_ret d_145_403 rt_145 ?_
        have hk := mtk_pmt m (by omega)
        refine ⟨rfl, _, rfl, (Sw.u (by decide)).t (Sw.u (by decide)), ?_, ?_, ?_, ?_⟩
        · rw [va_oth _ _ (by decide), va_oth _ _ (by decide), hbg]
        · rw [va_oth _ _ (by decide), va_oth _ _ (by decide), hat, hten]
        · rw [va_oth _ _ (by decide), va_same, htok, hk.1, if_neg (by omega), if_neg (by omega), if_pos (by omega)]
        · rw [va_same, htok]
          have k1 := hk.2.1
          have k2 := hk.2.2.1
          rw [if_neg (by omega)] at k1 k2
          exact ⟨k1, k2, fun q => absurd q hk.2.2.2⟩
    · have q172 : ¬ 9 ≤ m := mt (nI_leI (a := 9) (b := m) (by omega) (by omega)).mpr h172
      refine W_iconst d_145_175 (v := 2) (by decide) ?_
      refine W_goto (tgt := 195) d_145_176 (by decide) ?_
      refine W_putf d_145_195 o_145 k_7_122 rfl (Nat.le_of_ble_eq_true rfl) rfl mm_s25 ?_
      refine W_aload_n d_145_198 rfl (by decide) ?_
      refine W_iload_n d_145_199 rfl ?_
      refine W_iconst d_145_200 (v := 3) (by decide) ?_
      refine W_icmp_ge (tgt := 208) d_145_201 (by decide) (fun h201 => ?_) (fun h201 => absurd (nI_le (a := 3) (b := m) (by omega) (by omega)) h201)
      refine W_iload_n d_145_208 rfl ?_
      refine W_iconst d_145_209 (v := 3) (by decide) ?_
      refine W_isub d_145_210 ?_
      refine W_putf d_145_211 o_145 k_7_125 rfl (Nat.le_of_ble_eq_true rfl) rfl mm_s26 ?_
      refine W_goto (tgt := 403) d_145_214 (by decide) ?_
      refine W_ret d_145_403 rt_145 ?_
      have hk := mtk_pmt m (by omega)
      refine ⟨rfl, _, rfl, (Sw.u (by decide)).t (Sw.u (by decide)), ?_, ?_, ?_, ?_⟩
      · rw [va_oth _ _ (by decide), va_oth _ _ (by decide), hbg]
      · rw [va_oth _ _ (by decide), va_oth _ _ (by decide), hat, hten]
      · rw [va_oth _ _ (by decide), va_same, htok, hk.1, if_neg (by omega), if_pos (by omega)]
      · rw [va_same, htok]
        have k1 := hk.2.1
        have k2 := hk.2.2.1
        rw [if_neg (by omega)] at k1 k2
        exact ⟨k1, k2, fun q => absurd q hk.2.2.2⟩
  · have q162 : ¬ 3 ≤ m := mt (nI_leI (a := 3) (b := m) (by omega) (by omega)).mpr h162
    refine W_iconst d_145_165 (v := 3) (by decide) ?_
    refine W_goto (tgt := 195) d_145_166 (by decide) ?_
    refine W_putf d_145_195 o_145 k_7_122 rfl (Nat.le_of_ble_eq_true rfl) rfl mm_s25 ?_
    refine W_aload_n d_145_198 rfl (by decide) ?_
    refine W_iload_n d_145_199 rfl ?_
    refine W_iconst d_145_200 (v := 3) (by decide) ?_
    refine W_icmp_ge (tgt := 208) d_145_201 (by decide) (fun h201 => absurd h201 (nI_ge (a := m) (b := 3) (by omega) (by omega))) (fun h201 => ?_)
    refine W_iload_n d_145_204 rfl ?_
    refine W_goto (tgt := 211) d_145_205 (by decide) ?_
    refine W_putf d_145_211 o_145 k_7_125 rfl (Nat.le_of_ble_eq_true rfl) rfl mm_s26 ?_
    refine W_goto (tgt := 403) d_145_214 (by decide) ?_
    refine W_ret d_145_403 rt_145 ?_
    have hk := mtk_pmt m (by omega)
    refine ⟨rfl, _, rfl, (Sw.u (by decide)).t (Sw.u (by decide)), ?_, ?_, ?_, ?_⟩
    · rw [va_oth _ _ (by decide), va_oth _ _ (by decide), hbg]
    · rw [va_oth _ _ (by decide), va_oth _ _ (by decide), hat, hten]
    · rw [va_oth _ _ (by decide), va_same, htok, hk.1, if_pos (by omega)]
    · rw [va_same, htok]
      have k1 := hk.2.1
      have k2 := hk.2.2.1
      rw [if_pos (by omega)] at k1 k2
      exact ⟨k1, k2, fun q => absurd q hk.2.2.2⟩
theorem x_145e (hz : sz ≤ 160) {x : Int32} {n : Nat} (hs : s < sz) (hl : plt (Y 6 s) = false) (hg : pdg (Y 6 s) = true) (he : e = spn pdg (Y 6) (sz - s) s) (hn : n = e - s) (hv : n ≤ 4 → S 26 = num (Y 6) (sz - s) s 0) (hat : S 23 = nI e) (htp : S 11 = nI sz) (hbg : S 24 = nI s) : Wp d 145 309 [.ref 92, .int x, .int (nI n)] [] (N, H3 g P (mm Y S)) (fun v M => v = none ∧ ∃ S', M = (N, H3 g P (mm Y S')) ∧ Sw S S' [23, 24, 25, 26] ∧ S' 24 = nI s ∧ S' 23 = nI (ten (Y 6) sz s) ∧ S' 25 = mtk (tok (Y 6) sz s) ∧ vok (tok (Y 6) sz s) (S' 26) (num (Y 6) (sz - s) s 0)) := by
  have hge := spn_ge pdg (Y 6) (sz - s) s
  have hten : ten (Y 6) sz s = e := by
    unfold ten
    rw [if_neg (by omega), hl, cond_false, hg, cond_true, he]
  have htok : tok (Y 6) sz s = if 4 < e - s then -2 else 12 := by
    unfold tok
    rw [if_neg (by omega), hl, cond_false, hg, cond_true, ← he]
  refine W_aload_n d_145_309 rfl (by decide) ?_
  refine W_iload_n d_145_310 rfl ?_
  refine W_iconst d_145_311 (v := 4) (by decide) ?_
  refine W_icmp_le (tgt := 319) d_145_312 (by decide) (fun h312 => ?_) (fun h312 => ?_)
  · have q312 : n ≤ 4 := (nI_leI (a := n) (b := 4) (by omega) (by omega)).mp h312
    refine W_iconst d_145_319 (v := 1) (by decide) ?_
    refine W_putf d_145_320 o_145 k_7_122 rfl (Nat.le_of_ble_eq_true rfl) rfl mm_s25 ?_
    refine W_goto (tgt := 403) d_145_323 (by decide) ?_
    refine W_ret d_145_403 rt_145 ?_
    refine ⟨rfl, _, rfl, Sw.u (by decide), ?_, ?_, ?_, ?_⟩
    · rw [va_oth _ _ (by decide), hbg]
    · rw [va_oth _ _ (by decide), hat, hten]
    · rw [va_same, htok, if_neg (by omega)]
      decide
    · rw [va_oth _ _ (by decide), htok, if_neg (by omega)]
      exact ⟨fun q => absurd q (by decide), fun q => absurd q (by decide), fun q => hv (by omega)⟩
  · have q312 : ¬ n ≤ 4 := mt (nI_leI (a := n) (b := 4) (by omega) (by omega)).mpr h312
    refine W_iconst d_145_315 (v := (-1)) (by decide) ?_
    refine W_goto (tgt := 320) d_145_316 (by decide) ?_
    refine W_putf d_145_320 o_145 k_7_122 rfl (Nat.le_of_ble_eq_true rfl) rfl mm_s25 ?_
    refine W_goto (tgt := 403) d_145_323 (by decide) ?_
    refine W_ret d_145_403 rt_145 ?_
    refine ⟨rfl, _, rfl, Sw.u (by decide), ?_, ?_, ?_, ?_⟩
    · rw [va_oth _ _ (by decide), hbg]
    · rw [va_oth _ _ (by decide), hat, hten]
    · rw [va_same, htok, if_pos (by omega)]
      decide
    · rw [va_oth _ _ (by decide), htok, if_pos (by omega)]
      exact ⟨fun q => absurd q (by decide), fun q => absurd q (by decide), fun q => absurd q (by decide)⟩
theorem x_145g (hz : sz ≤ 160) {y : Value} (hs : s < sz) (hl : plt (Y 6 s) = false) (hg : pdg (Y 6 s) = false) (hx : sgn (Y 6 s) = true) (hb : 0 ≤ Y 6 s ∧ Y 6 s ≤ 255) (hat : S 23 = nI s) (htp : S 11 = nI sz) (hbg : S 24 = nI s) : Wp d 145 374 [.ref 92, .int (Y 6 s), y] [] (N, H3 g P (mm Y S)) (fun v M => v = none ∧ ∃ S', M = (N, H3 g P (mm Y S')) ∧ Sw S S' [23, 24, 25, 26] ∧ S' 24 = nI s ∧ S' 23 = nI (ten (Y 6) sz s) ∧ S' 25 = mtk (tok (Y 6) sz s) ∧ vok (tok (Y 6) sz s) (S' 26) (num (Y 6) (sz - s) s 0)) := by
  have hten : ten (Y 6) sz s = s + 1 := by
    unfold ten
    rw [if_neg (by omega), hl, cond_false, hg, cond_false]
  have htok : tok (Y 6) sz s = Y 6 s := by
    unfold tok
    rw [if_neg (by omega), hl, cond_false, hg, cond_false, hx, cond_true]
  have hk := mtk_sgn (of_decide_eq_true ((sgn_b hb).symm.trans hx))
  refine W_iconst d_145_374 (v := 1) (by decide) ?_
  refine W_goto (tgt := 379) d_145_375 (by decide) ?_
  refine W_istore_n d_145_379 rfl ?_
  refine W_aload_n d_145_380 rfl (by decide) ?_
  refine W_iload_n d_145_381 rfl ?_
  refine W_if_eq (tgt := 389) d_145_382 (by decide) (fun h382 => absurd h382 (by decide)) (fun _ => ?_)
  refine W_iload_n d_145_385 rfl ?_
  refine W_goto (tgt := 390) d_145_386 (by decide) ?_
  refine W_putf d_145_390 o_145 k_7_122 rfl (Nat.le_of_ble_eq_true rfl) rfl mm_s25 ?_
  refine W_aload_n d_145_393 rfl (by decide) ?_
  refine W_dup d_145_394 rfl ?_
  refine W_getf d_145_395 o_145 k_7_116 rfl rfl ?_
  rw [va_oth _ _ (by decide), hat]
  refine W_iconst d_145_398 (v := 1) (by decide) ?_
  refine W_iadd d_145_399 ?_
  rw [show ((nI s + 1 : Int32)) = nI (s + 1) from nI_add s 1]
  refine W_putf d_145_400 o_145 k_7_116 rfl (Nat.le_of_ble_eq_true rfl) rfl mm_s23 ?_
  refine W_ret d_145_403 rt_145 ?_
  refine ⟨rfl, _, rfl, (Sw.u (by decide)).t (Sw.u (by decide)), ?_, ?_, ?_, ?_⟩
  · rw [va_oth _ _ (by decide), va_oth _ _ (by decide), hbg]
  · rw [va_same, hten]
  · rw [va_oth _ _ (by decide), va_same, htok, hk.1]
  · rw [va_oth _ _ (by decide), va_oth _ _ (by decide), htok]
    exact ⟨fun q => absurd q hk.2.1, fun q => absurd q hk.2.2.1, fun q => absurd q hk.2.2.2⟩
theorem x_145h (hz : sz ≤ 160) {y : Value} (hs : s < sz) (hl : plt (Y 6 s) = false) (hg : pdg (Y 6 s) = false) (hx : sgn (Y 6 s) = false) (hb : 0 ≤ Y 6 s ∧ Y 6 s ≤ 255) (hat : S 23 = nI s) (htp : S 11 = nI sz) (hbg : S 24 = nI s) : Wp d 145 378 [.ref 92, .int (Y 6 s), y] [] (N, H3 g P (mm Y S)) (fun v M => v = none ∧ ∃ S', M = (N, H3 g P (mm Y S')) ∧ Sw S S' [23, 24, 25, 26] ∧ S' 24 = nI s ∧ S' 23 = nI (ten (Y 6) sz s) ∧ S' 25 = mtk (tok (Y 6) sz s) ∧ vok (tok (Y 6) sz s) (S' 26) (num (Y 6) (sz - s) s 0)) := by
  have hten : ten (Y 6) sz s = s + 1 := by
    unfold ten
    rw [if_neg (by omega), hl, cond_false, hg, cond_false]
  have htok : tok (Y 6) sz s = -2 := by
    unfold tok
    rw [if_neg (by omega), hl, cond_false, hg, cond_false, hx, cond_false]
  refine W_iconst d_145_378 (v := 0) (by decide) ?_
  refine W_istore_n d_145_379 rfl ?_
  refine W_aload_n d_145_380 rfl (by decide) ?_
  refine W_iload_n d_145_381 rfl ?_
  refine W_if_eq (tgt := 389) d_145_382 (by decide) (fun _ => ?_) (fun h382 => absurd h382 (by decide))
  refine W_iconst d_145_389 (v := (-1)) (by decide) ?_
  refine W_putf d_145_390 o_145 k_7_122 rfl (Nat.le_of_ble_eq_true rfl) rfl mm_s25 ?_
  refine W_aload_n d_145_393 rfl (by decide) ?_
  refine W_dup d_145_394 rfl ?_
  refine W_getf d_145_395 o_145 k_7_116 rfl rfl ?_
  rw [va_oth _ _ (by decide), hat]
  refine W_iconst d_145_398 (v := 1) (by decide) ?_
  refine W_iadd d_145_399 ?_
  rw [show ((nI s + 1 : Int32)) = nI (s + 1) from nI_add s 1]
  refine W_putf d_145_400 o_145 k_7_116 rfl (Nat.le_of_ble_eq_true rfl) rfl mm_s23 ?_
  refine W_ret d_145_403 rt_145 ?_
  refine ⟨rfl, _, rfl, (Sw.u (by decide)).t (Sw.u (by decide)), ?_, ?_, ?_, ?_⟩
  · rw [va_oth _ _ (by decide), va_oth _ _ (by decide), hbg]
  · rw [va_same, hten]
  · rw [va_oth _ _ (by decide), va_same, htok]
    decide
  · rw [va_oth _ _ (by decide), va_oth _ _ (by decide), htok]
    exact ⟨fun q => absurd q (by decide), fun q => absurd q (by decide), fun q => absurd q (by decide)⟩
theorem x_145b (hd : 1 ≤ d) (hw : Y 15 = wdr) (hz : sz ≤ 160) (hby : ∀ k, k < sz → 0 ≤ Y 6 k ∧ Y 6 k ≤ 255) {x y : Value} (hs : s ≤ sz) (hat : S 23 = nI s) (h25 : S 25 = 0) (h26 : S 26 = 0) (htp : S 11 = nI sz) (hbg : S 24 = nI s) : Wp d 145 70 [.ref 92, x, y] [] (N, H3 g P (mm Y S)) (fun v M => v = none ∧ ∃ S', M = (N, H3 g P (mm Y S')) ∧ Sw S S' [23, 24, 25, 26] ∧ S' 24 = nI s ∧ S' 23 = nI (ten (Y 6) sz s) ∧ S' 25 = mtk (tok (Y 6) sz s) ∧ vok (tok (Y 6) sz s) (S' 26) (num (Y 6) (sz - s) s 0)) := by
  refine W_aload_n d_145_70 rfl (by decide) ?_
  refine W_getf d_145_71 o_145 k_7_116 rfl rfl ?_
  rw [hat]
  refine W_aload_n d_145_74 rfl (by decide) ?_
  refine W_getf d_145_75 o_145 k_7_86 rfl rfl ?_
  rw [htp]
  refine W_icmp_ne (tgt := 82) d_145_78 (by decide) (fun h78 => ?_) (fun h78 => ?_)
  · have q78 : ¬ s = sz := mt (nI_eq (a := s) (b := sz) (by omega) (by omega)).mpr h78
    refine W_aload_n d_145_82 rfl (by decide) ?_
    refine W_getf d_145_83 o_145 k_7_32 rfl rfl ?_
    refine W_aload_n d_145_86 rfl (by decide) ?_
    refine W_getf d_145_87 o_145 k_7_116 rfl rfl ?_
    rw [hat]
    refine W_mld (a := 6) d_145_90 rfl (by decide) (n := 160) rfl (vp_in_nI (by omega) (by decide)) (congrArg _ (nI_clamp (by omega))) ?_
    refine W_istore_n d_145_91 rfl ?_
    refine W_iload_n d_145_92 rfl ?_
    refine W_bipush d_145_93 (v := 97) (by decide) ?_
    refine W_bipush d_145_95 (v := 122) (by decide) ?_
    refine W_callS d_145_97 o_145 k_7_96 (by omega) x_135 rfl (Nat.le_of_ble_eq_true rfl) ?_
    refine W_if_eq (tgt := 217) d_145_100 (by decide) (fun h100 => ?_) (fun h100 => ?_)
    · refine W_iload_n d_145_217 rfl ?_
      refine W_bipush d_145_218 (v := 48) (by decide) ?_
      refine W_bipush d_145_220 (v := 57) (by decide) ?_
      refine W_callS d_145_222 o_145 k_7_96 (by omega) x_135 rfl (Nat.le_of_ble_eq_true rfl) ?_
      refine W_if_eq (tgt := 326) d_145_225 (by decide) (fun h225 => ?_) (fun h225 => ?_)
      · refine W_iload_n d_145_326 rfl ?_
        refine W_bipush d_145_327 (v := 40) (by decide) ?_
        refine W_icmp_eq (tgt := 374) d_145_329 (by decide) (fun h329 => ?_) (fun h329 => ?_)
        · exact x_145g hz (by omega) (decide_eq_false (bI_f h100)) (decide_eq_false (bI_f h225)) ((sgn_b (hby s (by omega))).trans (decide_eq_true (Or.inl h329))) (hby s (by omega)) hat htp hbg
        · refine W_iload_n d_145_332 rfl ?_
          refine W_bipush d_145_333 (v := 41) (by decide) ?_
          refine W_icmp_eq (tgt := 374) d_145_335 (by decide) (fun h335 => ?_) (fun h335 => ?_)
          · exact x_145g hz (by omega) (decide_eq_false (bI_f h100)) (decide_eq_false (bI_f h225)) ((sgn_b (hby s (by omega))).trans (decide_eq_true (Or.inr (Or.inl h335)))) (hby s (by omega)) hat htp hbg
          · refine W_iload_n d_145_338 rfl ?_
            refine W_bipush d_145_339 (v := 59) (by decide) ?_
            refine W_icmp_eq (tgt := 374) d_145_341 (by decide) (fun h341 => ?_) (fun h341 => ?_)
            · exact x_145g hz (by omega) (decide_eq_false (bI_f h100)) (decide_eq_false (bI_f h225)) ((sgn_b (hby s (by omega))).trans (decide_eq_true (Or.inr (Or.inr (Or.inl h341))))) (hby s (by omega)) hat htp hbg
            · refine W_iload_n d_145_344 rfl ?_
              refine W_bipush d_145_345 (v := 43) (by decide) ?_
              refine W_icmp_eq (tgt := 374) d_145_347 (by decide) (fun h347 => ?_) (fun h347 => ?_)
              · exact x_145g hz (by omega) (decide_eq_false (bI_f h100)) (decide_eq_false (bI_f h225)) ((sgn_b (hby s (by omega))).trans (decide_eq_true (Or.inr (Or.inr (Or.inr (Or.inl h347)))))) (hby s (by omega)) hat htp hbg
              · refine W_iload_n d_145_350 rfl ?_
                refine W_bipush d_145_351 (v := 45) (by decide) ?_
                refine W_icmp_eq (tgt := 374) d_145_353 (by decide) (fun h353 => ?_) (fun h353 => ?_)
                · exact x_145g hz (by omega) (decide_eq_false (bI_f h100)) (decide_eq_false (bI_f h225)) ((sgn_b (hby s (by omega))).trans (decide_eq_true (Or.inr (Or.inr (Or.inr (Or.inr (Or.inl h353))))))) (hby s (by omega)) hat htp hbg
                · refine W_iload_n d_145_356 rfl ?_
                  refine W_bipush d_145_357 (v := 42) (by decide) ?_
                  refine W_icmp_eq (tgt := 374) d_145_359 (by decide) (fun h359 => ?_) (fun h359 => ?_)
                  · exact x_145g hz (by omega) (decide_eq_false (bI_f h100)) (decide_eq_false (bI_f h225)) ((sgn_b (hby s (by omega))).trans (decide_eq_true (Or.inr (Or.inr (Or.inr (Or.inr (Or.inr (Or.inl h359)))))))) (hby s (by omega)) hat htp hbg
                  · refine W_iload_n d_145_362 rfl ?_
                    refine W_bipush d_145_363 (v := 60) (by decide) ?_
                    refine W_icmp_eq (tgt := 374) d_145_365 (by decide) (fun h365 => ?_) (fun h365 => ?_)
                    · exact x_145g hz (by omega) (decide_eq_false (bI_f h100)) (decide_eq_false (bI_f h225)) ((sgn_b (hby s (by omega))).trans (decide_eq_true (Or.inr (Or.inr (Or.inr (Or.inr (Or.inr (Or.inr (Or.inl h365))))))))) (hby s (by omega)) hat htp hbg
                    · refine W_iload_n d_145_368 rfl ?_
                      refine W_bipush d_145_369 (v := 61) (by decide) ?_
                      refine W_icmp_ne (tgt := 378) d_145_371 (by decide) (fun h371 => ?_) (fun h371 => ?_)
                      · exact x_145h hz (by omega) (decide_eq_false (bI_f h100)) (decide_eq_false (bI_f h225)) ((sgn_b (hby s (by omega))).trans (decide_eq_false (fun q => q.elim h329 (fun q => q.elim h335 (fun q => q.elim h341 (fun q => q.elim h347 (fun q => q.elim h353 (fun q => q.elim h359 (fun q => q.elim h365 h371))))))))) (hby s (by omega)) hat htp hbg
                      · exact x_145g hz (by omega) (decide_eq_false (bI_f h100)) (decide_eq_false (bI_f h225)) ((sgn_b (hby s (by omega))).trans (decide_eq_true (Or.inr (Or.inr (Or.inr (Or.inr (Or.inr (Or.inr (Or.inr (h371)))))))))) (hby s (by omega)) hat htp hbg
      · refine W_iconst d_145_228 (v := 0) (by decide) ?_
        refine W_istore_n d_145_229 rfl ?_
        have hl : plt (Y 6 s) = false := decide_eq_false (bI_f h100)
        have hg : pdg (Y 6 s) = true := decide_eq_true (bI_t h225)
        refine x_145n hd hz (sz - s) s 0 S htp hat (by omega) (by omega) (fun S' r h23 h26' => ?_)
        refine Wp.imp (x_145e hz (by omega) hl hg rfl (by omega) (fun q => ?_) h23 ((r 11 (by decide)).trans htp) ((r 24 (by decide)).trans hbg)) ?_
        · rw [h26' q, h26]
        · rintro v M ⟨rfl, S2, rfl, r2, k⟩
          exact ⟨rfl, S2, rfl, (r.tr r2 (fun c hc => ⟨fun q => hc (by simp at q ⊢; omega), hc⟩)), k⟩
    · have hl : plt (Y 6 s) = true := decide_eq_true (bI_t h100)
      refine x_145w hd hz (sz - s) s S htp hat (by omega) (fun S' r h23 => ?_)
      refine Wp.imp (x_145d hd hw hz (by omega) hl rfl h23 ((r 11 (by decide)).trans htp) ((r 24 (by decide)).trans hbg)) ?_
      rintro v M ⟨rfl, S2, rfl, r2, k⟩
      exact ⟨rfl, S2, rfl, (r.tr r2 (fun c hc => ⟨fun q => hc (by simp at q ⊢; omega), hc⟩)), k⟩
  · have q78 : s = sz := (nI_eq (a := s) (b := sz) (by omega) (by omega)).mp h78
    refine W_ret d_145_81 rt_145 ?_
    refine ⟨rfl, S, rfl, Sw.refl, hbg, ?_, ?_, ?_⟩
    · rw [hat]
      unfold ten
      rw [if_pos (by omega)]
    · rw [h25, tok, if_pos (by omega)]
      decide
    · rw [tok, if_pos (by omega)]
      exact ⟨fun q => absurd q (by decide), fun q => absurd q (by decide), fun q => absurd q (by decide)⟩
theorem x_145 {i : Nat} (hd : 2 ≤ d) (hw : Y 15 = wdr) (hz : sz ≤ 160) (hby : ∀ k, k < sz → 0 ≤ Y 6 k ∧ Y 6 k ≤ 255) (hi : i ≤ sz) (hat0 : S 23 = nI i) (htp : S 11 = nI sz) : Wp d 145 0 (ment 145 [.ref 92]) [] (N, H3 g P (mm Y S)) (fun v M => v = none ∧ ∃ S', M = (N, H3 g P (mm Y S')) ∧ Sw S S' [23, 24, 25, 26] ∧ S' 24 = nI (tst (Y 6) sz i) ∧ S' 23 = nI (ten (Y 6) sz (tst (Y 6) sz i)) ∧ S' 25 = mtk (tok (Y 6) sz (tst (Y 6) sz i)) ∧ vok (tok (Y 6) sz (tst (Y 6) sz i)) (S' 26) (num (Y 6) (sz - tst (Y 6) sz i) (tst (Y 6) sz i) 0)) := by
  show Wp _ 145 0 [.ref 92, .null, .null] [] _ _
  have hb := tst_b (f := Y 6) hi
  obtain ⟨s, hs⟩ : ∃ s, s = tst (Y 6) sz i := ⟨_, rfl⟩
  rw [← hs] at hb ⊢
  refine x_145l (by omega) hz (sz - i) i S htp hat0 (by omega) (fun S1 r hat => ?_)
  rw [show spn pbl (Y 6) (sz - i) i = s from hs.symm] at hat
  have htp1 : S1 11 = nI sz := (r 11 (by decide)).trans htp
  have hd := Nat.le_trans (by decide : 1 ≤ 2) hd
  refine W_aload_n d_145_52 rfl (by decide) ?_
  refine W_aload_n d_145_53 rfl (by decide) ?_
  refine W_getf d_145_54 o_145 k_7_116 rfl rfl ?_
  rw [hat]
  refine W_putf d_145_57 o_145 k_7_119 rfl (Nat.le_of_ble_eq_true rfl) rfl mm_s24 ?_
  refine W_aload_n d_145_60 rfl (by decide) ?_
  refine W_iconst d_145_61 (v := 0) (by decide) ?_
  refine W_putf d_145_62 o_145 k_7_122 rfl (Nat.le_of_ble_eq_true rfl) rfl mm_s25 ?_
  refine W_aload_n d_145_65 rfl (by decide) ?_
  refine W_iconst d_145_66 (v := 0) (by decide) ?_
  refine W_putf d_145_67 o_145 k_7_125 rfl (Nat.le_of_ble_eq_true rfl) rfl mm_s26 ?_
  have r3 : Sw S1 (va_up (va_up (va_up S1 24 (nI s)) 25 0) 26 0) [23, 24, 25, 26] := (Sw.u (by decide)).t ((Sw.u (by decide)).t (Sw.u (by decide)))
  refine Wp.imp (x_145b hd hw hz hby (s := s) (by omega) ?_ ?_ (va_same _ _ _) ?_ ?_) ?_
  · rw [va_oth _ _ (by decide), va_oth _ _ (by decide), va_oth _ _ (by decide), hat]
  · rw [va_oth _ _ (by decide), va_same]
  · rw [va_oth _ _ (by decide), va_oth _ _ (by decide), va_oth _ _ (by decide), htp1]
  · rw [va_oth _ _ (by decide), va_oth _ _ (by decide), va_same]
  · rintro v M ⟨rfl, S2, rfl, r2, k⟩
    exact ⟨rfl, S2, rfl, (r.tr (r3.t r2) (fun c hc => ⟨fun q => hc (by simp at q ⊢; omega), hc⟩)), k⟩
end
