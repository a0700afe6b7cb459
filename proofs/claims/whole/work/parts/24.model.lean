/-! THE MODEL: rules, small methods, what a text says (wip/whole/gen24.py) -/
section
variable {d y pc : Nat} {L st : List Value} {M : mM} {Q : Option Value → mM → Prop}
theorem W_callVQ {c i z na b : Nat} {vs rest : List Value} {Q' : Option Value → mM → Prop} (hd : decode (bt y) pc = .ok (.invokevirtual i, 3)) (ho : mow y = c) (hl : lk c i = (4, z, na) ∨ lk c i = (15, z, na)) (h1 : 1 ≤ d) (hc : Wp (d - 1) z 0 (ment z vs) [] M Q') (hb : st[na]? = some (.ref b)) (hr : mrecv z b M = true) (hm : mcall z na true st = some (.inr (.inl (z, vs, rest)))) (hv : (mexp vs).length ≤ mml z) (k : ∀ v M', Q' v M' → Wp d y (pc + 3) L (v.toList ++ rest) M' Q) : Wp d y pc L st M Q := by
  obtain ⟨n, v, M', h2, h3⟩ := hc
  exact W_callV hd ho hl h1 ⟨n, h2⟩ hb hr hm hv (k v M' h3)
theorem W_callSQ {c i z na : Nat} {vs rest : List Value} {Q' : Option Value → mM → Prop} (hd : decode (bt y) pc = .ok (.invokestatic i, 3)) (ho : mow y = c) (hl : lk c i = (5, z, na)) (h1 : 1 ≤ d) (hc : Wp (d - 1) z 0 (ment z vs) [] M Q') (hm : mcall z na false st = some (.inr (.inl (z, vs, rest)))) (hv : (mexp vs).length ≤ mml z) (k : ∀ v M', Q' v M' → Wp d y (pc + 3) L (v.toList ++ rest) M' Q) : Wp d y pc L st M Q := by
  obtain ⟨n, v, M', h2, h3⟩ := hc
  exact W_callS hd ho hl h1 ⟨n, h2⟩ hm hv (k v M' h3)
theorem Ex.wp {z : Nat} {vs : List Value} {v : Option Value} {M2 : mM} (h : Ex d z vs M v M2) (hq : Q v M2) : Wp d z 0 (ment z vs) [] M Q := by
  obtain ⟨n, h1⟩ := h
  exact ⟨n, v, M2, h1, hq⟩
theorem Wp.up {d' : Nat} (h : Wp d y pc L st M Q) (hd : d ≤ d') : Wp d' y pc L st M Q := by
  obtain ⟨n, v, M2, h1, h2⟩ := h
  exact ⟨n, v, M2, run_mono _ _ _ _ _ _ _ _ h1 n d' (Nat.le_refl _) hd, h2⟩
end
section
variable {d y pc : Nat} {L st : List Value} {Q : Option Value → mM → Prop} {g : mG} {N : Nat} {P : Nat → mC} {Y : tR} {S : Nat → Int32}
theorem mm_at {q a : Nat} (hq : q = 93 + a) (ha : a < 24) : (N, H3 g P (mm Y S)).2 q = .inl (0, mln a, Y a) := by
  subst hq
  show H3 g P (mm Y S) (93 + a) = _
  unfold H3
  rw [if_neg (by omega), if_pos (by omega)]
  unfold mm
  rw [if_neg (by omega), Nat.add_sub_cancel_left]
theorem W_mld {q a n : Nat} {j v : Int32} (hd : decode (bt y) pc = .ok (.iaload, 1)) (hq : q = 93 + a) (ha : a < 24) (hn : mln a = n) (hj : vp_in j n) (hv : Y a j.toNatClampNeg = v) (k : Wp d y (pc + 1) L (.int v :: st) (N, H3 g P (mm Y S)) Q) : Wp d y pc L (.int j :: .ref q :: st) (N, H3 g P (mm Y S)) Q := by
  subst hn
  exact W_iald hd (mm_at hq ha) (by decide) hj hv k
theorem W_mst {q a n k : Nat} {j x : Int32} (hd : decode (bt y) pc = .ok (.iastore, 1)) (hq : q = 93 + a) (ha : a < 24) (hn : mln a = n) (hj : vp_in j n) (hk : j.toNatClampNeg = k) (kk : Wp d y (pc + 1) L st (N, H3 g P (mm (u2 Y a k x) S)) Q) : Wp d y pc L (.int x :: .int j :: .ref q :: st) (N, H3 g P (mm Y S)) Q := by
  subst hn
  exact W_iast hd (mm_at hq ha) hj (mm_setU hq ha hk) kk
end
theorem x_135 {d : Nat} {M : mM} {v a b : Int32} : Ex d 135 [.int v, .int a, .int b] M (some (.int (bI (decide (a ≤ v ∧ v ≤ b))))) M := by
  refine Ex.of ?_
  show Wp _ 135 0 [.int v, .int a, .int b] [] _ _
  refine W_iload_n d_135_0 rfl ?_
  refine W_iload_n d_135_1 rfl ?_
  refine W_icmp_lt (tgt := 14) d_135_2 (by decide) (fun h2 => ?_) (fun h2 => ?_)
  · refine W_iconst d_135_14 (v := 0) (by decide) ?_
    refine W_iret d_135_15 rt_135 rfl ?_
    first | exact ⟨congrArg (fun z => some (Value.int z)) (bI_1 (by simp only [Int32.lt_iff_toInt_lt, Int32.le_iff_toInt_le] at *; omega)), rfl⟩ | exact ⟨congrArg (fun z => some (Value.int z)) (bI_0 (by simp only [Int32.lt_iff_toInt_lt, Int32.le_iff_toInt_le] at *; omega)), rfl⟩
  · refine W_iload_n d_135_5 rfl ?_
    refine W_iload_n d_135_6 rfl ?_
    refine W_icmp_gt (tgt := 14) d_135_7 (by decide) (fun h7 => ?_) (fun h7 => ?_)
    · refine W_iconst d_135_14 (v := 0) (by decide) ?_
      refine W_iret d_135_15 rt_135 rfl ?_
      first | exact ⟨congrArg (fun z => some (Value.int z)) (bI_1 (by simp only [Int32.lt_iff_toInt_lt, Int32.le_iff_toInt_le] at *; omega)), rfl⟩ | exact ⟨congrArg (fun z => some (Value.int z)) (bI_0 (by simp only [Int32.lt_iff_toInt_lt, Int32.le_iff_toInt_le] at *; omega)), rfl⟩
    · refine W_iconst d_135_10 (v := 1) (by decide) ?_
      refine W_goto (tgt := 15) d_135_11 (by decide) ?_
      refine W_iret d_135_15 rt_135 rfl ?_
      first | exact ⟨congrArg (fun z => some (Value.int z)) (bI_1 (by simp only [Int32.lt_iff_toInt_lt, Int32.le_iff_toInt_le] at *; omega)), rfl⟩ | exact ⟨congrArg (fun z => some (Value.int z)) (bI_0 (by simp only [Int32.lt_iff_toInt_lt, Int32.le_iff_toInt_le] at *; omega)), rfl⟩
def i_wi (v a b : Int32) : Int32 := if v < a then a else if b < v then b else v
theorem x_136 {d : Nat} {M : mM} {v a b : Int32} : Ex d 136 [.int v, .int a, .int b] M (some (.int (i_wi v a b))) M := by
  refine Ex.of ?_
  show Wp _ 136 0 [.int v, .int a, .int b] [] _ _
  refine W_iload_n d_136_0 rfl ?_
  refine W_iload_n d_136_1 rfl ?_
  refine W_icmp_ge (tgt := 9) d_136_2 (by decide) (fun h2 => ?_) (fun h2 => ?_)
  · refine W_iload_n d_136_9 rfl ?_
    refine W_iload_n d_136_10 rfl ?_
    refine W_icmp_le (tgt := 18) d_136_11 (by decide) (fun h11 => ?_) (fun h11 => ?_)
    · refine W_iload_n d_136_18 rfl ?_
      refine W_iret d_136_19 rt_136 rfl ?_
      exact ⟨congrArg (fun z => some (Value.int z)) ((if_neg (by simp only [Int32.lt_iff_toInt_lt, Int32.le_iff_toInt_le] at *; omega)).trans (if_neg (by simp only [Int32.lt_iff_toInt_lt, Int32.le_iff_toInt_le] at *; omega))).symm, rfl⟩
    · refine W_iload_n d_136_14 rfl ?_
      refine W_goto (tgt := 19) d_136_15 (by decide) ?_
      refine W_iret d_136_19 rt_136 rfl ?_
      exact ⟨congrArg (fun z => some (Value.int z)) ((if_neg (by simp only [Int32.lt_iff_toInt_lt, Int32.le_iff_toInt_le] at *; omega)).trans (if_pos (by simp only [Int32.lt_iff_toInt_lt, Int32.le_iff_toInt_le] at *; omega))).symm, rfl⟩
  · refine W_iload_n d_136_5 rfl ?_
    refine W_goto (tgt := 19) d_136_6 (by decide) ?_
    refine W_iret d_136_19 rt_136 rfl ?_
    exact ⟨congrArg (fun z => some (Value.int z)) (if_pos (by simp only [Int32.lt_iff_toInt_lt, Int32.le_iff_toInt_le] at *; omega)).symm, rfl⟩
theorem in_pred {v : Int32} {n : Nat} (h : n < 2 ^ 31) : (0 ≤ v ∧ v ≤ nI n - 1) ↔ (0 ≤ v ∧ v < nI n) := by
  have e : nI n - 1 = nI n + (-1) := by rw [Int32.sub_eq_add_neg]
  have t : (nI n - 1).toInt = (n : Int) - 1 := by
    cases n with
    | zero => decide
    | succ k => rw [nI_pred, nI_toInt (by omega)]; omega
  simp only [Int32.lt_iff_toInt_lt, Int32.le_iff_toInt_le, t, nI_toInt h]
  constructor
  · rintro ⟨a, b⟩; exact ⟨a, by omega⟩
  · rintro ⟨a, b⟩; exact ⟨a, by omega⟩
theorem bI_eq {p q : Prop} [Decidable p] [Decidable q] (h : p ↔ q) : bI (decide p) = bI (decide q) := by rw [decide_eq_decide.mpr h]
theorem x_137 {d : Nat} {g : mG} {N : Nat} {P : Nat → mC} {Y : tR} {S : Nat → Int32} {n : Nat} (hn : S 0 = nI n) (hn12 : n ≤ 12) {v : Int32} (hd : 1 ≤ d) : Ex d 137 [.ref 92, .int v] (N, H3 g P (mm Y S)) (some (.int (bI (decide (0 ≤ v ∧ v < nI n))))) (N, H3 g P (mm Y S)) := by
  refine Ex.of ?_
  show Wp _ 137 0 [.ref 92, .int v] [] _ _
  refine W_iload_n d_137_0 rfl ?_
  refine W_iconst d_137_1 (v := 0) (by decide) ?_
  refine W_aload_n d_137_2 rfl (by decide) ?_
  refine W_getf d_137_3 o_137 k_7_93 rfl rfl ?_
  rw [hn]
  refine W_iconst d_137_6 (v := 1) (by decide) ?_
  refine W_isub d_137_7 ?_
  refine W_callS d_137_8 o_137 k_7_96 (by omega) x_135 rfl (Nat.le_of_ble_eq_true rfl) ?_
  refine W_iret d_137_11 rt_137 bI_nz ?_
  exact ⟨congrArg (fun z => some (Value.int z)) (bI_eq (in_pred (by omega))), rfl⟩
theorem x_138 {d : Nat} {g : mG} {N : Nat} {P : Nat → mC} {Y : tR} {S : Nat → Int32} {n : Nat} (hn : S 5 = nI n) (hn12 : n ≤ 12) {v : Int32} (hd : 1 ≤ d) : Ex d 138 [.ref 92, .int v] (N, H3 g P (mm Y S)) (some (.int (bI (decide (0 ≤ v ∧ v < nI n))))) (N, H3 g P (mm Y S)) := by
  refine Ex.of ?_
  show Wp _ 138 0 [.ref 92, .int v] [] _ _
  refine W_iload_n d_138_0 rfl ?_
  refine W_iconst d_138_1 (v := 0) (by decide) ?_
  refine W_aload_n d_138_2 rfl (by decide) ?_
  refine W_getf d_138_3 o_138 k_7_100 rfl rfl ?_
  rw [hn]
  refine W_iconst d_138_6 (v := 1) (by decide) ?_
  refine W_isub d_138_7 ?_
  refine W_callS d_138_8 o_138 k_7_96 (by omega) x_135 rfl (Nat.le_of_ble_eq_true rfl) ?_
  refine W_iret d_138_11 rt_138 bI_nz ?_
  exact ⟨congrArg (fun z => some (Value.int z)) (bI_eq (in_pred (by omega))), rfl⟩
theorem x_139 {d : Nat} {M : mM} {v : Int32} (hd : 1 ≤ d) : Ex d 139 [.int v] M (some (.int (bI (decide (0 ≤ v ∧ v ≤ 48))))) M := by
  refine Ex.of ?_
  show Wp _ 139 0 [.int v] [] _ _
  refine W_iload_n d_139_0 rfl ?_
  refine W_iconst d_139_1 (v := 0) (by decide) ?_
  refine W_bipush d_139_2 (v := 48) (by decide) ?_
  refine W_callS d_139_4 o_139 k_7_96 (by omega) x_135 rfl (Nat.le_of_ble_eq_true rfl) ?_
  refine W_iret d_139_7 rt_139 bI_nz ?_
  exact ⟨rfl, rfl⟩
theorem x_142 {d : Nat} {M : mM} {v : Int32} (hd : 1 ≤ d) : Ex d 142 [.int v] M (some (.int (bI (decide (0 ≤ v ∧ v ≤ 255))))) M := by
  refine Ex.of ?_
  show Wp _ 142 0 [.int v] [] _ _
  refine W_iload_n d_142_0 rfl ?_
  refine W_iconst d_142_1 (v := 0) (by decide) ?_
  refine W_sipush d_142_2 (v := 255) (by decide) ?_
  refine W_callS d_142_5 o_142 k_7_96 (by omega) x_135 rfl (Nat.le_of_ble_eq_true rfl) ?_
  refine W_iret d_142_8 rt_142 bI_nz ?_
  exact ⟨rfl, rfl⟩
def i_hd (v : Int32) : Int32 := if 999 < v then 999 else v
theorem i_hd_min (v : Int32) : i_hd v = i_min 999 v := by
  unfold i_hd i_min
  by_cases h : 999 < v
  · rw [if_pos h, if_neg (by simp only [Int32.lt_iff_toInt_lt] at *; omega)]
  · rw [if_neg h]
    by_cases h2 : v < 999
    · rw [if_pos h2]
    · rw [if_neg h2]
      exact Int32.toInt_inj.mp (by simp only [Int32.lt_iff_toInt_lt] at *; omega)
theorem x_170 {d : Nat} {M : mM} {v : Int32} : Ex d 170 [.int v] M (some (.int (i_hd v))) M := by
  refine Ex.of ?_
  show Wp _ 170 0 [.int v] [] _ _
  refine W_iload_n d_170_0 rfl ?_
  refine W_sipush d_170_1 (v := 999) (by decide) ?_
  refine W_icmp_le (tgt := 13) d_170_4 (by decide) (fun h4 => ?_) (fun h4 => ?_)
  · refine W_iload_n d_170_13 rfl ?_
    refine W_iret d_170_14 rt_170 rfl ?_
    exact ⟨congrArg (fun z => some (Value.int z)) (if_neg (by simp only [Int32.lt_iff_toInt_lt, Int32.le_iff_toInt_le] at *; omega)).symm, rfl⟩
  · refine W_sipush d_170_7 (v := 999) (by decide) ?_
    refine W_goto (tgt := 14) d_170_10 (by decide) ?_
    refine W_iret d_170_14 rt_170 rfl ?_
    exact ⟨congrArg (fun z => some (Value.int z)) (if_pos (by simp only [Int32.lt_iff_toInt_lt, Int32.le_iff_toInt_le] at *; omega)).symm, rfl⟩
def mtw (c a b : Int32) : Int32 := if c = 11 then bI (decide (¬ a = 0 ∨ ¬ b = 0)) else if c = 12 then bI (decide (¬ a = 0 ∧ ¬ b = 0)) else if c = 14 then bI (decide (a < b)) else if c = 15 then bI (decide (a = b)) else if c = 16 then a + b else if c = 17 then a - b else a * b
theorem x_155 {d : Nat} {M : mM} {c a b : Int32} : Ex d 155 [.int c, .int a, .int b] M (some (.int (mtw c a b))) M := by
  refine Ex.of ?_
  show Wp _ 155 0 [.int c, .int a, .int b] [] _ _
  refine W_iload_n d_155_0 rfl ?_
  by_cases s1_11 : c = 11
  · refine W_table (tgt := 44) d_155_1 (off := 43) (by rw [s1_11]; decide) (by decide) ?_
    refine W_iload_n d_155_44 rfl ?_
    refine W_if_ne (tgt := 52) d_155_45 (by decide) (fun h45 => ?_) (fun h45 => ?_)
    · refine W_iconst d_155_52 (v := 1) (by decide) ?_
      refine W_goto (tgt := 57) d_155_53 (by decide) ?_
      refine W_iret d_155_57 rt_155 rfl ?_
      subst s1_11
      exact ⟨congrArg (fun z => some (Value.int z)) (bI_1 (Or.inl h45)), rfl⟩
    · refine W_iload_n d_155_48 rfl ?_
      refine W_if_eq (tgt := 56) d_155_49 (by decide) (fun h49 => ?_) (fun h49 => ?_)
      · refine W_iconst d_155_56 (v := 0) (by decide) ?_
        refine W_iret d_155_57 rt_155 rfl ?_
        subst s1_11
        exact ⟨congrArg (fun z => some (Value.int z)) (bI_0 (by intro q; rcases q with q | q <;> first | exact q (Classical.not_not.mp h45) | exact q h45 | exact q h49)), rfl⟩
      · refine W_iconst d_155_52 (v := 1) (by decide) ?_
        refine W_goto (tgt := 57) d_155_53 (by decide) ?_
        refine W_iret d_155_57 rt_155 rfl ?_
        subst s1_11
        exact ⟨congrArg (fun z => some (Value.int z)) (bI_1 (Or.inr h49)), rfl⟩
  by_cases s1_12 : c = 12
  · refine W_table (tgt := 58) d_155_1 (off := 57) (by rw [s1_12]; decide) (by decide) ?_
    refine W_iload_n d_155_58 rfl ?_
    refine W_if_eq (tgt := 70) d_155_59 (by decide) (fun h59 => ?_) (fun h59 => ?_)
    · refine W_iconst d_155_70 (v := 0) (by decide) ?_
      refine W_iret d_155_71 rt_155 rfl ?_
      subst s1_12
      exact ⟨congrArg (fun z => some (Value.int z)) (bI_0 (by rintro ⟨q1, q2⟩; first | exact q1 h59 | exact q2 h63)), rfl⟩
    · refine W_iload_n d_155_62 rfl ?_
      refine W_if_eq (tgt := 70) d_155_63 (by decide) (fun h63 => ?_) (fun h63 => ?_)
      · refine W_iconst d_155_70 (v := 0) (by decide) ?_
        refine W_iret d_155_71 rt_155 rfl ?_
        subst s1_12
        exact ⟨congrArg (fun z => some (Value.int z)) (bI_0 (by rintro ⟨q1, q2⟩; first | exact q1 h59 | exact q2 h63)), rfl⟩
      · refine W_iconst d_155_66 (v := 1) (by decide) ?_
        refine W_goto (tgt := 71) d_155_67 (by decide) ?_
        refine W_iret d_155_71 rt_155 rfl ?_
        subst s1_12
        exact ⟨congrArg (fun z => some (Value.int z)) (bI_1 ⟨h59, h63⟩), rfl⟩
  by_cases s1_13 : c = 13
  · refine W_table (tgt := 102) d_155_1 (off := 101) (by rw [s1_13]; decide) (by decide) ?_
    refine W_iload_n d_155_102 rfl ?_
    refine W_iload_n d_155_103 rfl ?_
    refine W_imul d_155_104 ?_
    refine W_iret d_155_105 rt_155 rfl ?_
    subst s1_13
    exact ⟨rfl, rfl⟩
  by_cases s1_14 : c = 14
  · refine W_table (tgt := 72) d_155_1 (off := 71) (by rw [s1_14]; decide) (by decide) ?_
    refine W_iload_n d_155_72 rfl ?_
    refine W_iload_n d_155_73 rfl ?_
    refine W_icmp_ge (tgt := 81) d_155_74 (by decide) (fun h74 => ?_) (fun h74 => ?_)
    · refine W_iconst d_155_81 (v := 0) (by decide) ?_
      refine W_iret d_155_82 rt_155 rfl ?_
      subst s1_14
      exact ⟨congrArg (fun z => some (Value.int z)) (bI_0 (Int32.not_lt.mpr h74)), rfl⟩
    · refine W_iconst d_155_77 (v := 1) (by decide) ?_
      refine W_goto (tgt := 82) d_155_78 (by decide) ?_
      refine W_iret d_155_82 rt_155 rfl ?_
      subst s1_14
      exact ⟨congrArg (fun z => some (Value.int z)) (bI_1 (Int32.not_le.mp h74)), rfl⟩
  by_cases s1_15 : c = 15
  · refine W_table (tgt := 83) d_155_1 (off := 82) (by rw [s1_15]; decide) (by decide) ?_
    refine W_iload_n d_155_83 rfl ?_
    refine W_iload_n d_155_84 rfl ?_
    refine W_icmp_ne (tgt := 92) d_155_85 (by decide) (fun h85 => ?_) (fun h85 => ?_)
    · refine W_iconst d_155_92 (v := 0) (by decide) ?_
      refine W_iret d_155_93 rt_155 rfl ?_
      subst s1_15
      exact ⟨congrArg (fun z => some (Value.int z)) (bI_0 h85), rfl⟩
    · refine W_iconst d_155_88 (v := 1) (by decide) ?_
      refine W_goto (tgt := 93) d_155_89 (by decide) ?_
      refine W_iret d_155_93 rt_155 rfl ?_
      subst s1_15
      exact ⟨congrArg (fun z => some (Value.int z)) (bI_1 h85), rfl⟩
  by_cases s1_16 : c = 16
  · refine W_table (tgt := 94) d_155_1 (off := 93) (by rw [s1_16]; decide) (by decide) ?_
    refine W_iload_n d_155_94 rfl ?_
    refine W_iload_n d_155_95 rfl ?_
    refine W_iadd d_155_96 ?_
    refine W_iret d_155_97 rt_155 rfl ?_
    subst s1_16
    exact ⟨rfl, rfl⟩
  by_cases s1_17 : c = 17
  · refine W_table (tgt := 98) d_155_1 (off := 97) (by rw [s1_17]; decide) (by decide) ?_
    refine W_iload_n d_155_98 rfl ?_
    refine W_iload_n d_155_99 rfl ?_
    refine W_isub d_155_100 ?_
    refine W_iret d_155_101 rt_155 rfl ?_
    subst s1_17
    exact ⟨rfl, rfl⟩
  refine W_table (tgt := 102) d_155_1 (off := 101) (if_pos (by have q11 := lv_neT (a := 11) s1_11 (by decide); have q12 := lv_neT (a := 12) s1_12 (by decide); have q13 := lv_neT (a := 13) s1_13 (by decide); have q14 := lv_neT (a := 14) s1_14 (by decide); have q15 := lv_neT (a := 15) s1_15 (by decide); have q16 := lv_neT (a := 16) s1_16 (by decide); have q17 := lv_neT (a := 17) s1_17 (by decide); omega)) (by decide) ?_
  refine W_iload_n d_155_102 rfl ?_
  refine W_iload_n d_155_103 rfl ?_
  refine W_imul d_155_104 ?_
  refine W_iret d_155_105 rt_155 rfl ?_
  exact ⟨congrArg (fun z => some (Value.int z)) (by unfold mtw; rw [if_neg (by assumption), if_neg (by assumption), if_neg (by assumption), if_neg (by assumption), if_neg (by assumption), if_neg (by assumption)]), rfl⟩
def cdm (s : Int32) : Int32 := if s < 0 then 10 - s else if 10000 ≤ s then s - 10000 else 100000 + s
theorem mtw_ljn {s : Int32} (h0 : s < 0) (h1 : -9 ≤ s) (h3 : ¬ (s = -3 ∨ s = -9)) (a b : Int32) : mtw (10 - s) a b = ljn a s b := by
  have key : s = -1 ∨ s = -2 ∨ s = -4 ∨ s = -5 ∨ s = -6 ∨ s = -7 ∨ s = -8 := by
    simp only [← Int32.toInt_inj, Int32.lt_iff_toInt_lt, Int32.le_iff_toInt_le] at *
    have e : ∀ k : Int32, k.toInt = k.toInt := fun _ => rfl
    have a0 : (0 : Int32).toInt = 0 := rfl
    have a1 : (-1 : Int32).toInt = -1 := rfl
    have a2 : (-2 : Int32).toInt = -2 := rfl
    have a3 : (-3 : Int32).toInt = -3 := rfl
    have a4 : (-4 : Int32).toInt = -4 := rfl
    have a5 : (-5 : Int32).toInt = -5 := rfl
    have a6 : (-6 : Int32).toInt = -6 := rfl
    have a7 : (-7 : Int32).toInt = -7 := rfl
    have a8 : (-8 : Int32).toInt = -8 := rfl
    have a9 : (-9 : Int32).toInt = -9 := rfl
    rw [a0] at h0; rw [a9] at h1; rw [a3, a9] at h3
    rw [a1, a2, a4, a5, a6, a7, a8]
    omega
  rcases key with rfl | rfl | rfl | rfl | rfl | rfl | rfl <;> rfl
