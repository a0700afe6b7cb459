/-! LAW: what a text says (wip/whole/gen17.py) -/
theorem x_17 {d : Nat} {g : mG} {N : Nat} {A T K : Nat → tR} {B : tR} {E : Nat → Int32} {l : Int64} {G : tR} {Qm : Nat → mC} {t : Nat} (ht : t < 6) {v : Int32} {n : Nat} (hn : T t 2 0 = nI n) (hn1 : n < 160) : Ex d 17 [.ref (lb t), .int v] (N, H3 g (cc A T K B E l G) Qm) none (N, H3 g (cc A (u3 (u3 T t 0 n v) t 2 0 (nI (n + 1))) K B E l G) Qm) := by
  refine Ex.of ?_
  show Wp _ 17 0 [.ref (lb t), .int v] [] _ _
  refine W_aload_n d_17_0 rfl (lb_ne (by assumption)) ?_
  refine W_getf d_17_1 o_17 k_0_21 (h_law (by assumption)) rfl ?_
  rw [hn]
  refine W_aload_n d_17_4 rfl (lb_ne (by assumption)) ?_
  refine W_getf d_17_5 o_17 k_0_9 (h_law (by assumption)) rfl ?_
  refine W_alen (n := 160) (v := 160) d_17_8 ((congrArg mlen (h_steps (by assumption))).trans rfl) (by decide) ?_
  refine W_icmp_ge (tgt := 32) d_17_9 (by decide) (fun h9 => absurd h9 (nI_ge (a := n) (b := 160) hn1 (by decide))) (fun h9 => ?_)
  refine W_aload_n d_17_12 rfl (lb_ne (by assumption)) ?_
  refine W_getf d_17_13 o_17 k_0_9 (h_law (by assumption)) rfl ?_
  refine W_aload_n d_17_16 rfl (lb_ne (by assumption)) ?_
  refine W_getf d_17_17 o_17 k_0_21 (h_law (by assumption)) rfl ?_
  rw [hn]
  refine W_iload_n d_17_20 rfl ?_
  refine W_iast d_17_21 (h_steps (by assumption)) (vp_in_nI (by omega) (by decide)) (ms_stepsU (by assumption) (nI_clamp (by omega))) ?_
  refine W_aload_n d_17_22 rfl (lb_ne (by assumption)) ?_
  refine W_dup d_17_23 rfl ?_
  refine W_getf d_17_24 o_17 k_0_21 (h_law (by assumption)) rfl ?_
  rw [show (u3 T t 0 n v) t 2 0 = nI n from by simp [u3_ap, hn]]
  refine W_iconst d_17_27 (v := 1) (by decide) ?_
  refine W_iadd d_17_28 ?_
  refine W_putf d_17_29 o_17 k_0_21 (h_law (by assumption)) (Nat.le_of_ble_eq_true rfl) rfl (ms_lsize (by assumption)) ?_
  refine W_ret d_17_32 rt_17 ?_
  exact ⟨rfl, by rw [nI_succ]⟩
theorem x_18 {d : Nat} {g : mG} {N : Nat} {A T K : Nat → tR} {B : tR} {E : Nat → Int32} {l : Int64} {G : tR} {Qm : Nat → mC} {t : Nat} (ht : t < 6) {p : Nat} (hp : p < 3) : Ex d 18 [.ref (lb t), .int (nI p)] (N, H3 g (cc A T K B E l G) Qm) none (N, H3 g (cc A (u3 T t 1 (p + 1) (T t 2 0)) K B E l G) Qm) := by
  refine Ex.of ?_
  show Wp _ 18 0 [.ref (lb t), .int (nI p)] [] _ _
  refine W_aload_n d_18_0 rfl (lb_ne (by assumption)) ?_
  refine W_getf d_18_1 o_18 k_0_15 (h_law (by assumption)) rfl ?_
  refine W_iload_n d_18_4 rfl ?_
  refine W_iconst d_18_5 (v := 1) (by decide) ?_
  refine W_iadd d_18_6 ?_
  refine W_aload_n d_18_7 rfl (lb_ne (by assumption)) ?_
  refine W_getf d_18_8 o_18 k_0_21 (h_law (by assumption)) rfl ?_
  rw [← nI_succ]
  refine W_iast d_18_11 (h_starts (by assumption)) (vp_in_nI (by omega) (by decide)) (ms_startsU (by assumption) (nI_clamp (by omega))) ?_
  refine W_ret d_18_12 rt_18 ?_
  exact ⟨rfl, rfl⟩
theorem nI_s1 {h : Nat} (q : 1 ≤ h) : nI h - 1 = nI (h - 1) := by
  obtain ⟨k, rfl⟩ : ∃ k, h = k + 1 := ⟨h - 1, by omega⟩
  exact nI_pred k
theorem nI_s2 {h : Nat} (q : 2 ≤ h) : nI h - 2 = nI (h - 2) := by
  obtain ⟨k, rfl⟩ : ∃ k, h = k + 2 := ⟨h - 2, by omega⟩
  rw [show nI (k + 2) = nI k + 2 from (nI_add k 2).symm, Int32.add_sub_cancel]; rfl
theorem nI_m1 {h : Nat} (q : 2 ≤ h) : nI h + (-1) = nI (h - 1) := by
  rw [← Int32.sub_eq_add_neg]; exact nI_s1 (by omega)
theorem u2_va (G : tR) (a : Nat) (row : Nat → Int32) (k : Nat) (x : Int32) : u2 (va_up G a row) a k x = va_up G a (va_up row k x) := by
  funext i
  unfold u2 va_up
  by_cases h : i = a <;> simp [h]
theorem va_same {α : Type} (f : Nat → α) (i : Nat) (v : α) : va_up f i v i = v := if_pos rfl
theorem va_oth {α : Type} (f : Nat → α) {i j : Nat} (v : α) (h : ¬ j = i) : va_up f i v j = f j := if_neg h
theorem va_self {α : Type} (f : Nat → α) (i : Nat) : va_up f i (f i) = f := by
  funext j; unfold va_up; by_cases h : j = i <;> simp [h]
def i_un (s a : Int32) : Int32 := if s = -9 then -a else if a = 0 then 1 else 0
def sm1 (F : Nat → Int32) (s : Int32) (q : (Nat → Int32) × Nat) : (Nat → Int32) × Nat :=
  if s < 0 then (if s = -3 ∨ s = -9 then (va_up q.1 (q.2 - 1) (i_un s (q.1 (q.2 - 1))), q.2) else (va_up q.1 (q.2 - 2) (ljn (q.1 (q.2 - 2)) s (q.1 (q.2 - 1))), q.2 - 1))
  else (va_up q.1 q.2 (if 10000 ≤ s then F (s - 10000).toNatClampNeg else s), q.2 + 1)
def smr (F S : Nat → Int32) : Nat → Nat → (Nat → Int32) × Nat → (Nat → Int32) × Nat
  | 0, _, q => q
  | k + 1, i, q => smr F S k (i + 1) (sm1 F (S i) q)
def sok (S : Nat → Int32) : Nat → Nat → Nat → Option Nat
  | 0, _, h => some h
  | k + 1, i, h => if S i < 0 then (if S i = -3 ∨ S i = -9 then (if 1 ≤ h then sok S k (i + 1) h else none) else (if 2 ≤ h then sok S k (i + 1) (h - 1) else none))
    else (if S i < 10006 then sok S k (i + 1) (h + 1) else none)
section
variable {S : Nat → Int32} {k i h f : Nat}
theorem sok_ge (h0 : ¬ S i < 0) (hok : sok S (k + 1) i h = some f) : S i < 10006 ∧ sok S k (i + 1) (h + 1) = some f := by
  simp only [sok, if_neg h0] at hok
  split at hok
  · exact ⟨by assumption, hok⟩
  · cases hok
theorem sok_un (h0 : S i < 0) (h1 : S i = -3 ∨ S i = -9) (hok : sok S (k + 1) i h = some f) : 1 ≤ h ∧ sok S k (i + 1) h = some f := by
  simp only [sok, if_pos h0, if_pos h1] at hok
  split at hok
  · exact ⟨by assumption, hok⟩
  · cases hok
theorem sok_bin (h0 : S i < 0) (h1 : ¬ (S i = -3 ∨ S i = -9)) (hok : sok S (k + 1) i h = some f) : 2 ≤ h ∧ sok S k (i + 1) (h - 1) = some f := by
  simp only [sok, if_pos h0, if_neg h1] at hok
  split at hok
  · exact ⟨by assumption, hok⟩
  · cases hok
end
theorem fact_ix {s : Int32} (h : 10000 ≤ s) (h2 : s < 10006) : ∃ m, m < 6 ∧ s - 10000 = nI m := by
  have a : (10000 : Int32).toInt = 10000 := rfl
  have b : (10006 : Int32).toInt = 10006 := rfl
  rw [Int32.le_iff_toInt_le, a] at h
  rw [Int32.lt_iff_toInt_lt, b] at h2
  refine ⟨(s.toInt - 10000).toNat, by omega, ?_⟩
  refine Int32.toInt_inj.mp ?_
  rw [Int32.toInt_sub, nI_toInt (by omega), a, Int.bmod_eq_of_le (by omega) (by omega)]
  omega
section
variable {F : Nat → Int32} {s : Int32} {row : Nat → Int32} {h : Nat}
theorem sm1_lit (h0 : ¬ s < 0) (h1 : ¬ 10000 ≤ s) : sm1 F s (row, h) = (va_up row h s, h + 1) := by
  simp only [sm1, if_neg h0, if_neg h1]
theorem sm1_fact {m : Nat} (h0 : ¬ s < 0) (h1 : 10000 ≤ s) (hm : m < 6) (em : s - 10000 = nI m) : sm1 F s (row, h) = (va_up row h (F m), h + 1) := by
  simp only [sm1, if_neg h0, if_pos h1, em, nI_clamp (show m < 2 ^ 31 by omega)]
theorem sm1_un {v : Int32} (h0 : s < 0) (h1 : s = -3 ∨ s = -9) (hv : i_un s (row (h - 1)) = v) : sm1 F s (row, h) = (va_up row (h - 1) v, h) := by
  simp only [sm1, if_pos h0, if_pos h1, hv]
theorem sm1_bin (h0 : s < 0) (h1 : ¬ (s = -3 ∨ s = -9)) : sm1 F s (row, h) = (va_up row (h - 2) (ljn (row (h - 2)) s (row (h - 1))), h - 1) := by
  simp only [sm1, if_pos h0, if_neg h1]
end
theorem lp_19 {d : Nat} {g : mG} {N : Nat} {A T K : Nat → tR} {B : tR} {E : Nat → Int32} {l : Int64} {G : tR} {Qm : Nat → mC} {t : Nat} (ht : t < 6) {r : Nat} (hr : r < 3) {p e f : Nat} (hp : p < 3) (he : T t 1 (p + 1) = nI e) (he1 : e ≤ 160) (hd : 1 ≤ d) {Q : Option Value → mM → Prop} : ∀ (k i h : Nat) (row : Nat → Int32) (a b : Value), i + k = e → h ≤ i → sok (T t 0) k i h = some f → Q (some (.int (i_max 0 (i_min 99 ((smr (G r) (T t 0) k i (row, h)).1 0))))) (N, H3 g (cc A T K B E l (va_up G (3 + t) (smr (G r) (T t 0) k i (row, h)).1)) Qm) → Wp d 19 10 [.ref (lb t), .int (nI p), .ref (rb r + 5), .int (nI h), .int (nI i), a, b] [] (N, H3 g (cc A T K B E l (va_up G (3 + t) row)) Qm) Q := by
  intro k
  induction k with
  | zero =>
    intro i h row a b hi hh hok kk
    obtain rfl : i = e := by omega
    rw [show smr (G r) (T t 0) 0 i (row, h) = (row, h) from rfl] at kk
    refine W_iload d_19_10 rfl ?_
    refine W_aload_n d_19_12 rfl (lb_ne (by assumption)) ?_
    refine W_getf d_19_13 o_19 k_0_15 (h_law (by assumption)) rfl ?_
    refine W_iload_n d_19_16 rfl ?_
    refine W_iconst d_19_17 (v := 1) (by decide) ?_
    refine W_iadd d_19_18 ?_
    rw [← nI_succ]
    refine W_iald d_19_19 (h_starts (by assumption)) (by decide) (vp_in_nI (by omega) (by decide)) (congrArg _ (nI_clamp (by omega))) ?_
    rw [he]
    refine W_icmp_ge (tgt := 178) d_19_20 (by decide) (fun h20 => ?_) (fun h20 => absurd (nI_le (a := i) (b := i) (by omega) (by omega)) h20)
    refine W_iconst d_19_178 (v := 0) (by decide) ?_
    refine W_bipush d_19_179 (v := 99) (by decide) ?_
    refine W_aload_n d_19_181 rfl (lb_ne (by assumption)) ?_
    refine W_getf d_19_182 o_19 k_0_18 (h_law (by assumption)) rfl ?_
    refine W_iconst d_19_185 (v := 0) (by decide) ?_
    refine W_iald d_19_186 (h_stack (by assumption)) (by decide) (vp_in_nI (n := 0) (by decide) (by decide)) (congrArg _ (show (0 : Int32).toNatClampNeg = 0 from rfl)) ?_
    rw [va_same]
    refine W_callS d_19_187 o_19 k_0_33 (by omega) x_14 rfl (Nat.le_of_ble_eq_true rfl) ?_
    refine W_callS d_19_190 o_19 k_0_39 (by omega) x_13 rfl (Nat.le_of_ble_eq_true rfl) ?_
    refine W_iret d_19_193 rt_19 rfl ?_
    exact kk
  | succ k ih =>
    intro i h row a b hi hh hok kk
    refine W_iload d_19_10 rfl ?_
    refine W_aload_n d_19_12 rfl (lb_ne (by assumption)) ?_
    refine W_getf d_19_13 o_19 k_0_15 (h_law (by assumption)) rfl ?_
    refine W_iload_n d_19_16 rfl ?_
    refine W_iconst d_19_17 (v := 1) (by decide) ?_
    refine W_iadd d_19_18 ?_
    rw [← nI_succ]
    refine W_iald d_19_19 (h_starts (by assumption)) (by decide) (vp_in_nI (by omega) (by decide)) (congrArg _ (nI_clamp (by omega))) ?_
    rw [he]
    refine W_icmp_ge (tgt := 178) d_19_20 (by decide) (fun h20 => absurd h20 (nI_ge (a := i) (b := e) (by omega) (by omega))) (fun h20 => ?_)
    refine W_aload_n d_19_23 rfl (lb_ne (by assumption)) ?_
    refine W_getf d_19_24 o_19 k_0_9 (h_law (by assumption)) rfl ?_
    refine W_iload d_19_27 rfl ?_
    refine W_iald d_19_29 (h_steps (by assumption)) (by decide) (vp_in_nI (by omega) (by decide)) (congrArg _ (nI_clamp (by omega))) ?_
    refine W_istore d_19_30 rfl ?_
    refine W_iload d_19_32 rfl ?_
    refine W_if_lt (tgt := 79) d_19_34 (by decide) (fun h34 => ?_) (fun h34 => ?_)
    · refine W_iload d_19_79 rfl ?_
      refine W_callS d_19_81 o_19 k_0_25 (by omega) x_20 rfl (Nat.le_of_ble_eq_true rfl) ?_
      refine W_if_eq (tgt := 135) d_19_84 (by decide) (fun h84 => ?_) (fun h84 => ?_)
      · have hun : ¬ (T t 0 i = -3 ∨ T t 0 i = -9) := bI_f h84
        obtain ⟨hh2, hok2⟩ := sok_bin h34 hun hok
        refine W_iload_n d_19_135 rfl ?_
        refine W_iconst d_19_136 (v := 1) (by decide) ?_
        refine W_icmp_le (tgt := 172) d_19_137 (by decide) (fun h137 => absurd h137 (nI_ge (a := 1) (b := h) (by omega) (by omega))) (fun h137 => ?_)
        refine W_aload_n d_19_140 rfl (lb_ne (by assumption)) ?_
        refine W_getf d_19_141 o_19 k_0_18 (h_law (by assumption)) rfl ?_
        refine W_iload_n d_19_144 rfl ?_
        refine W_iconst d_19_145 (v := 2) (by decide) ?_
        refine W_isub d_19_146 ?_
        rw [nI_s2 hh2]
        refine W_aload_n d_19_147 rfl (lb_ne (by assumption)) ?_
        refine W_getf d_19_148 o_19 k_0_18 (h_law (by assumption)) rfl ?_
        refine W_iload_n d_19_151 rfl ?_
        refine W_iconst d_19_152 (v := 2) (by decide) ?_
        refine W_isub d_19_153 ?_
        rw [nI_s2 hh2]
        refine W_iald d_19_154 (h_stack (by assumption)) (by decide) (vp_in_nI (by omega) (by decide)) (congrArg _ (nI_clamp (by omega))) ?_
        rw [va_same]
        refine W_iload d_19_155 rfl ?_
        refine W_aload_n d_19_157 rfl (lb_ne (by assumption)) ?_
        refine W_getf d_19_158 o_19 k_0_18 (h_law (by assumption)) rfl ?_
        refine W_iload_n d_19_161 rfl ?_
        refine W_iconst d_19_162 (v := 1) (by decide) ?_
        refine W_isub d_19_163 ?_
        rw [nI_s1 (by omega)]
        refine W_iald d_19_164 (h_stack (by assumption)) (by decide) (vp_in_nI (by omega) (by decide)) (congrArg _ (nI_clamp (by omega))) ?_
        rw [va_same]
        refine W_callS d_19_165 o_19 k_0_29 (by omega) x_21 rfl (Nat.le_of_ble_eq_true rfl) ?_
        refine W_iast d_19_168 (h_stack (by assumption)) (vp_in_nI (by omega) (by decide)) (ms_stackU (by assumption) (nI_clamp (by omega))) ?_
        refine W_iinc (v := (-1)) d_19_169 rfl (by decide) rfl ?_
        refine W_iinc (v := 1) d_19_172 rfl (by decide) rfl ?_
        refine W_goto (tgt := 10) d_19_175 (by decide) ?_
        rw [u2_va]
        rw [show smr (G r) (T t 0) (k + 1) i (row, h) = smr (G r) (T t 0) k (i + 1) (va_up row (h - 2) (ljn (row (h - 2)) (T t 0 i) (row (h - 1))), h - 1) from congrArg (smr (G r) (T t 0) k (i + 1)) (sm1_bin h34 hun)] at kk
        have h9 := fun a b => ih (i + 1) (h - 1) (va_up row (h - 2) (ljn (row (h - 2)) (T t 0 i) (row (h - 1)))) a b (by omega) (by omega) hok2 kk
        rw [nI_succ i, ← nI_m1 hh2] at h9
        exact h9 _ _
      · have hun : T t 0 i = -3 ∨ T t 0 i = -9 := bI_t h84
        obtain ⟨hh1, hok2⟩ := sok_un h34 hun hok
        refine W_iload_n d_19_87 rfl ?_
        refine W_if_le (tgt := 135) d_19_88 (by decide) (fun h88 => absurd h88 (nI_ge (a := 0) (b := h) (by omega) (by omega))) (fun h88 => ?_)
        refine W_aload_n d_19_91 rfl (lb_ne (by assumption)) ?_
        refine W_getf d_19_92 o_19 k_0_18 (h_law (by assumption)) rfl ?_
        refine W_iload_n d_19_95 rfl ?_
        refine W_iconst d_19_96 (v := 1) (by decide) ?_
        refine W_isub d_19_97 ?_
        rw [nI_s1 hh1]
        refine W_iald d_19_98 (h_stack (by assumption)) (by decide) (vp_in_nI (by omega) (by decide)) (congrArg _ (nI_clamp (by omega))) ?_
        rw [va_same]
        refine W_istore d_19_99 rfl ?_
        refine W_aload_n d_19_101 rfl (lb_ne (by assumption)) ?_
        refine W_getf d_19_102 o_19 k_0_18 (h_law (by assumption)) rfl ?_
        refine W_iload_n d_19_105 rfl ?_
        refine W_iconst d_19_106 (v := 1) (by decide) ?_
        refine W_isub d_19_107 ?_
        rw [nI_s1 hh1]
        refine W_iload d_19_108 rfl ?_
        refine W_bipush d_19_110 (v := (-9)) (by decide) ?_
        refine W_icmp_ne (tgt := 121) d_19_112 (by decide) (fun h112 => ?_) (fun h112 => ?_)
        · refine W_iload d_19_121 rfl ?_
          refine W_if_ne (tgt := 130) d_19_123 (by decide) (fun h123 => ?_) (fun h123 => ?_)
          · refine W_iconst d_19_130 (v := 0) (by decide) ?_
            refine W_iast d_19_131 (h_stack (by assumption)) (vp_in_nI (by omega) (by decide)) (ms_stackU (by assumption) (nI_clamp (by omega))) ?_
            refine W_goto (tgt := 172) d_19_132 (by decide) ?_
            refine W_iinc (v := 1) d_19_172 rfl (by decide) rfl ?_
            refine W_goto (tgt := 10) d_19_175 (by decide) ?_
            rw [u2_va]
            rw [show smr (G r) (T t 0) (k + 1) i (row, h) = smr (G r) (T t 0) k (i + 1) (va_up row (h - 1) 0, h) from congrArg (smr (G r) (T t 0) k (i + 1)) (sm1_un h34 hun (by rw [i_un, if_neg h112, if_neg h123]))] at kk
            have h9 := fun a b => ih (i + 1) (h) (va_up row (h - 1) 0) a b (by omega) (by omega) hok2 kk
            rw [nI_succ i] at h9
            exact h9 _ _
          · refine W_iconst d_19_126 (v := 1) (by decide) ?_
            refine W_goto (tgt := 131) d_19_127 (by decide) ?_
            refine W_iast d_19_131 (h_stack (by assumption)) (vp_in_nI (by omega) (by decide)) (ms_stackU (by assumption) (nI_clamp (by omega))) ?_
            refine W_goto (tgt := 172) d_19_132 (by decide) ?_
            refine W_iinc (v := 1) d_19_172 rfl (by decide) rfl ?_
            refine W_goto (tgt := 10) d_19_175 (by decide) ?_
            rw [u2_va]
            rw [show smr (G r) (T t 0) (k + 1) i (row, h) = smr (G r) (T t 0) k (i + 1) (va_up row (h - 1) 1, h) from congrArg (smr (G r) (T t 0) k (i + 1)) (sm1_un h34 hun (by rw [i_un, if_neg h112, if_pos h123]))] at kk
            have h9 := fun a b => ih (i + 1) (h) (va_up row (h - 1) 1) a b (by omega) (by omega) hok2 kk
            rw [nI_succ i] at h9
            exact h9 _ _
        · refine W_iload d_19_115 rfl ?_
          refine W_ineg d_19_117 ?_
          refine W_goto (tgt := 131) d_19_118 (by decide) ?_
          refine W_iast d_19_131 (h_stack (by assumption)) (vp_in_nI (by omega) (by decide)) (ms_stackU (by assumption) (nI_clamp (by omega))) ?_
          refine W_goto (tgt := 172) d_19_132 (by decide) ?_
          refine W_iinc (v := 1) d_19_172 rfl (by decide) rfl ?_
          refine W_goto (tgt := 10) d_19_175 (by decide) ?_
          rw [u2_va]
          rw [show smr (G r) (T t 0) (k + 1) i (row, h) = smr (G r) (T t 0) k (i + 1) (va_up row (h - 1) (-(row (h - 1))), h) from congrArg (smr (G r) (T t 0) k (i + 1)) (sm1_un h34 hun (by rw [i_un, if_pos h112]))] at kk
          have h9 := fun a b => ih (i + 1) (h) (va_up row (h - 1) (-(row (h - 1)))) a b (by omega) (by omega) hok2 kk
          rw [nI_succ i] at h9
          exact h9 _ _
    · obtain ⟨hlt, hok2⟩ := sok_ge h34 hok
      refine W_iload_n d_19_37 rfl ?_
      refine W_aload_n d_19_38 rfl (lb_ne (by assumption)) ?_
      refine W_getf d_19_39 o_19 k_0_18 (h_law (by assumption)) rfl ?_
      refine W_alen (n := 160) (v := 160) d_19_42 ((congrArg mlen (h_stack (by assumption))).trans rfl) (by decide) ?_
      refine W_icmp_ge (tgt := 79) d_19_43 (by decide) (fun h43 => absurd h43 (nI_ge (a := h) (b := 160) (by omega) (by omega))) (fun h43 => ?_)
      refine W_aload_n d_19_46 rfl (lb_ne (by assumption)) ?_
      refine W_getf d_19_47 o_19 k_0_18 (h_law (by assumption)) rfl ?_
      refine W_iload_n d_19_50 rfl ?_
      refine W_iload d_19_51 rfl ?_
      refine W_sipush d_19_53 (v := 10000) (by decide) ?_
      refine W_icmp_ge (tgt := 64) d_19_56 (by decide) (fun h56 => ?_) (fun h56 => ?_)
      · obtain ⟨m, hm, em⟩ := fact_ix h56 hlt
        refine W_aload_n d_19_64 rfl (by have := hr; unfold rb; omega) ?_
        refine W_iload d_19_65 rfl ?_
        refine W_sipush d_19_67 (v := 10000) (by decide) ?_
        refine W_isub d_19_70 ?_
        rw [em]
        refine W_iald d_19_71 (h_facts (by assumption)) (by decide) (vp_in_nI (by omega) (by decide)) (congrArg _ (nI_clamp (by omega))) ?_
        rw [va_oth _ _ (by omega)]
        refine W_iast d_19_72 (h_stack (by assumption)) (vp_in_nI (by omega) (by decide)) (ms_stackU (by assumption) (nI_clamp (by omega))) ?_
        refine W_iinc (v := 1) d_19_73 rfl (by decide) rfl ?_
        refine W_goto (tgt := 172) d_19_76 (by decide) ?_
        refine W_iinc (v := 1) d_19_172 rfl (by decide) rfl ?_
        refine W_goto (tgt := 10) d_19_175 (by decide) ?_
        rw [u2_va]
        rw [show smr (G r) (T t 0) (k + 1) i (row, h) = smr (G r) (T t 0) k (i + 1) (va_up row h (G r m), h + 1) from congrArg (smr (G r) (T t 0) k (i + 1)) (sm1_fact h34 h56 hm em)] at kk
        have h9 := fun a b => ih (i + 1) (h + 1) (va_up row h (G r m)) a b (by omega) (by omega) hok2 kk
        rw [nI_succ i, nI_succ h] at h9
        exact h9 _ _
      · refine W_iload d_19_59 rfl ?_
        refine W_goto (tgt := 72) d_19_61 (by decide) ?_
        refine W_iast d_19_72 (h_stack (by assumption)) (vp_in_nI (by omega) (by decide)) (ms_stackU (by assumption) (nI_clamp (by omega))) ?_
        refine W_iinc (v := 1) d_19_73 rfl (by decide) rfl ?_
        refine W_goto (tgt := 172) d_19_76 (by decide) ?_
        refine W_iinc (v := 1) d_19_172 rfl (by decide) rfl ?_
        refine W_goto (tgt := 10) d_19_175 (by decide) ?_
        rw [u2_va]
        rw [show smr (G r) (T t 0) (k + 1) i (row, h) = smr (G r) (T t 0) k (i + 1) (va_up row h (T t 0 i), h + 1) from congrArg (smr (G r) (T t 0) k (i + 1)) (sm1_lit h34 h56)] at kk
        have h9 := fun a b => ih (i + 1) (h + 1) (va_up row h (T t 0 i)) a b (by omega) (by omega) hok2 kk
        rw [nI_succ i, nI_succ h] at h9
        exact h9 _ _
def sgG (G : tR) (T : Nat → tR) (t r a n : Nat) : tR := va_up G (3 + t) (smr (G r) (T t 0) n a (G (3 + t), 0)).1
def sgV (G : tR) (T : Nat → tR) (t r a n : Nat) : Int32 := i_max 0 (i_min 99 ((smr (G r) (T t 0) n a (G (3 + t), 0)).1 0))
theorem x_19 {d : Nat} {g : mG} {N : Nat} {A T K : Nat → tR} {B : tR} {E : Nat → Int32} {l : Int64} {G : tR} {Qm : Nat → mC} {t : Nat} (ht : t < 6) {r : Nat} (hr : r < 3) {p a n f : Nat} (hp : p < 3) (hs : T t 1 p = nI a) (he : T t 1 (p + 1) = nI (a + n)) (he1 : a + n ≤ 160) (hok : sok (T t 0) n a 0 = some f) (hd : 1 ≤ d) : Ex d 19 [.ref (lb t), .int (nI p), .ref (rb r + 5)] (N, H3 g (cc A T K B E l G) Qm) (some (.int (sgV G T t r a n))) (N, H3 g (cc A T K B E l (sgG G T t r a n)) Qm) := by
  refine Ex.of ?_
  show Wp _ 19 0 [.ref (lb t), .int (nI p), .ref (rb r + 5), .null, .null, .null, .null] [] _ _
  refine W_iconst d_19_0 (v := 0) (by decide) ?_
  refine W_istore_n d_19_1 rfl ?_
  refine W_aload_n d_19_2 rfl (lb_ne (by assumption)) ?_
  refine W_getf d_19_3 o_19 k_0_15 (h_law (by assumption)) rfl ?_
  refine W_iload_n d_19_6 rfl ?_
  refine W_iald d_19_7 (h_starts (by assumption)) (by decide) (vp_in_nI (by omega) (by decide)) (congrArg _ (nI_clamp (by omega))) ?_
  rw [hs]
  refine W_istore d_19_8 rfl ?_
  have h9 := lp_19 (g := g) (N := N) (A := A) (T := T) (K := K) (B := B) (E := E) (l := l) (G := G) (Qm := Qm) ht hr hp he he1 hd (Q := fun v M => v = some (.int (sgV G T t r a n)) ∧ M = (N, H3 g (cc A T K B E l (sgG G T t r a n)) Qm)) n a 0 (G (3 + t)) .null .null rfl (by omega) hok ⟨rfl, rfl⟩
  rw [va_self] at h9
  exact h9
