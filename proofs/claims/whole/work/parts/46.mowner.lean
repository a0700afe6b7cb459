/-! THE MODEL: owner, ownersBy, live, asks (wip/whole/gen46.py) -/
def owY (Y : tR) (n : Nat) (km a : Int32) : tR := u2 (u2 (u2 (u2 (u2 (u2 (u2 Y 0 n (km / 10)) 1 n (i_mod km 10)) 2 (5 * n + 0) 0) 2 (5 * n + 1) 0) 2 (5 * n + 2) 0) 2 (5 * n + 3) a) 2 (5 * n + 4) 0
theorem owY_ap (Y : tR) (n : Nat) (km a : Int32) (i k : Nat) : owY Y n km a i k = if i = 0 ∧ k = n then km / 10 else if i = 1 ∧ k = n then i_mod km 10 else if i = 2 ∧ k = 5 * n + 3 then a else if i = 2 ∧ 5 * n ≤ k ∧ k ≤ 5 * n + 4 then 0 else Y i k := by
  unfold owY
  simp only [u2_ap]
  repeat' split
  all_goals first | rfl | (exfalso; omega)
theorem owr_ap (A : Nat → tR) (r n : Nat) (k m a v : Int32) (i j : Nat) : u3 (ow0 A r n k m a) r 12 0 v r i j = if i = 12 ∧ j = 0 then v else if i = 0 ∧ j = n then k else if i = 1 ∧ j = n then m else if i = 5 ∧ j = n then a else if (i = 2 ∨ i = 3 ∨ i = 4 ∨ i = 6) ∧ j = n then 0 else A r i j := by
  rw [u3_ap]
  by_cases h0 : i = 12 ∧ j = 0
  · rw [if_pos ⟨rfl, h0⟩, if_pos h0]
  · rw [if_neg (fun q => h0 q.2), if_neg h0]
    by_cases hj : j = n
    · by_cases c : i = 0 ∨ i = 1 ∨ i = 2 ∨ i = 3 ∨ i = 4 ∨ i = 5 ∨ i = 6
      · rcases c with rfl | rfl | rfl | rfl | rfl | rfl | rfl <;> simp [ow0, u3_ap, hj]
      · rw [if_neg (by omega), if_neg (by omega), if_neg (by omega), if_neg (by omega)]
        unfold ow0
        rw [u3_ap, if_neg (by omega), u3_ap, if_neg (by omega), u3_ap, if_neg (by omega), u3_ap, if_neg (by omega), u3_ap, if_neg (by omega), u3_ap, if_neg (by omega), u3_ap, if_neg (by omega)]
    · rw [if_neg (by omega), if_neg (by omega), if_neg (by omega), if_neg (by omega)]
      unfold ow0
      rw [u3_ap, if_neg (by omega), u3_ap, if_neg (by omega), u3_ap, if_neg (by omega), u3_ap, if_neg (by omega), u3_ap, if_neg (by omega), u3_ap, if_neg (by omega), u3_ap, if_neg (by omega)]
/-- what does not bear on the road stays -/
def FRm (Y : tR) (S : Nat → Int32) (Y' : tR) (S' : Nat → Int32) : Prop := (∀ i, 6 ≤ i ∧ i ≤ 15 → Y' i = Y i) ∧ S' 11 = S 11 ∧ S' 14 = S 14 ∧ S' 16 = S 16
theorem FRm.refl {Y : tR} {S : Nat → Int32} : FRm Y S Y S := ⟨fun _ _ => rfl, rfl, rfl, rfl⟩
theorem FRm.trans {Y Y1 Y2 : tR} {S S1 S2 : Nat → Int32} (h : FRm Y S Y1 S1) (k : FRm Y1 S1 Y2 S2) : FRm Y S Y2 S2 := ⟨fun i hi => (k.1 i hi).trans (h.1 i hi), k.2.1.trans h.2.1, k.2.2.1.trans h.2.2.1, k.2.2.2.trans h.2.2.2⟩
theorem FRc.m {C : Nat → Nat → Prop} {Y Y1 : tR} {S S1 : Nat → Int32} (h : FRc C Y S Y1 S1) (h1 : ¬ C 99 11) (h2 : ¬ C 99 14) (h3 : ¬ C 99 16) : FRm Y S Y1 S1 := ⟨fun i hi => h.1 i (by unfold SPC; omega), h.2.2.2.2 11 (by decide) h1, h.2.2.2.2 14 (by decide) h2, h.2.2.2.2 16 (by decide) h3⟩
theorem FRq.m {Y Y1 : tR} {S S1 : Nat → Int32} (h : FRq Y S Y1 S1) : FRm Y S Y1 S1 := FRc.m h (fun q => q) (fun q => q) (fun q => q)
theorem FRm.lm {Y Y1 : tR} {S S1 : Nat → Int32} (h : FRm Y S Y1 S1) {t : Nat} {Lr : tR} {z : Nat → Nat} (hM : LM Y t Lr z) : LM Y1 t Lr z := by
  unfold LM at hM ⊢
  rw [h.1 8 (by decide), h.1 7 (by decide)]
  exact hM
theorem FRm.shr {K : Nat → tR} {Y Y1 : tR} {S S1 : Nat → Int32} (h : FRm Y S Y1 S1) (hK : SHR K Y) : SHR K Y1 := by
  intro s hs
  rw [h.1 11 (by decide), h.1 12 (by decide), h.1 13 (by decide)]
  exact hK s hs
theorem ow_frm {Y : tR} {S : Nat → Int32} {n : Nat} {km a v : Int32} : FRm Y S (owY Y n km a) (va_up S 0 v) := ⟨fun i hi => by
  unfold owY
  rw [u2_row (by omega), u2_row (by omega), u2_row (by omega), u2_row (by omega), u2_row (by omega), u2_row (by omega), u2_row (by omega)], rfl, rfl, rfl⟩
theorem es_own {n : Nat} {Y : tR} {S : Nat → Int32} {A : Nat → tR} {r : Nat} {km a : Int32} (h : ES n (MA Y S) (A r)) : ES (n + 1) (MA (owY Y n km a) (va_up S 0 (nI (n + 1)))) (u3 (ow0 A r n (km / 10) (i_mod km 10) a) r 12 0 (nI n + 1) r) := by
  refine ES.of (fun c b hc hb => ?_) (fun c b hc hc2 hb => ?_) (fun b hb => ?_)
  · have get : ¬ b = n → MA Y S c b = A r c b := fun e => h.lo hc (by omega)
    have : c = 0 ∨ c = 1 ∨ c = 2 ∨ c = 3 ∨ c = 4 ∨ c = 5 ∨ c = 6 := by omega
    rw [owr_ap]
    rcases this with rfl | rfl | rfl | rfl | rfl | rfl | rfl
    · show owY Y n km a 0 b = _
      rw [owY_ap]
      repeat' split
      all_goals first | rfl | (exfalso; omega) | exact get (by omega)
    · show owY Y n km a 1 b = _
      rw [owY_ap]
      repeat' split
      all_goals first | rfl | (exfalso; omega) | exact get (by omega)
    · show owY Y n km a 2 (5 * b + (2 - 2)) = _
      rw [owY_ap]
      repeat' split
      all_goals first | rfl | (exfalso; omega) | exact get (by omega)
    · show owY Y n km a 2 (5 * b + (3 - 2)) = _
      rw [owY_ap]
      repeat' split
      all_goals first | rfl | (exfalso; omega) | exact get (by omega)
    · show owY Y n km a 2 (5 * b + (4 - 2)) = _
      rw [owY_ap]
      repeat' split
      all_goals first | rfl | (exfalso; omega) | exact get (by omega)
    · show owY Y n km a 2 (5 * b + (5 - 2)) = _
      rw [owY_ap]
      repeat' split
      all_goals first | rfl | (exfalso; omega) | exact get (by omega)
    · show owY Y n km a 2 (5 * b + (6 - 2)) = _
      rw [owY_ap]
      repeat' split
      all_goals first | rfl | (exfalso; omega) | exact get (by omega)
  · have get : MA Y S c b = A r c b := h.hi hc hc2 hb
    have : c = 9 ∨ c = 10 ∨ c = 11 := by omega
    rw [owr_ap, if_neg (by omega), if_neg (by omega), if_neg (by omega), if_neg (by omega), if_neg (by omega), ← get]
    rcases this with rfl | rfl | rfl
    · exact congrFun (show owY Y n km a 3 = Y 3 from by unfold owY; rw [u2_row (by omega), u2_row (by omega), u2_row (by omega), u2_row (by omega), u2_row (by omega), u2_row (by omega), u2_row (by omega)]) b
    · exact congrFun (show owY Y n km a 4 = Y 4 from by unfold owY; rw [u2_row (by omega), u2_row (by omega), u2_row (by omega), u2_row (by omega), u2_row (by omega), u2_row (by omega), u2_row (by omega)]) b
    · exact congrFun (show owY Y n km a 5 = Y 5 from by unfold owY; rw [u2_row (by omega), u2_row (by omega), u2_row (by omega), u2_row (by omega), u2_row (by omega), u2_row (by omega), u2_row (by omega)]) b
  · rw [owr_ap]
    have : b = 0 ∨ b = 1 ∨ b = 2 ∨ b = 3 ∨ b = 4 := by omega
    rcases this with rfl | rfl | rfl | rfl | rfl
    · rw [if_pos ⟨rfl, rfl⟩, ← nI_succ]; rfl
    · rw [if_neg (by omega), if_neg (by omega), if_neg (by omega), if_neg (by omega), if_neg (by omega)]; exact h.tw (by decide)
    · rw [if_neg (by omega), if_neg (by omega), if_neg (by omega), if_neg (by omega), if_neg (by omega)]; exact h.tw (by decide)
    · rw [if_neg (by omega), if_neg (by omega), if_neg (by omega), if_neg (by omega), if_neg (by omega)]; exact h.tw (by decide)
    · rw [if_neg (by omega), if_neg (by omega), if_neg (by omega), if_neg (by omega), if_neg (by omega)]; exact h.tw (by decide)
theorem q_160b {d : Nat} {g : mG} {N : Nat} {P : Nat → mC} {Y : tR} {S : Nat → Int32} {km a : Int32} (hb : ¬ ((0 ≤ km ∧ km ≤ 59) ∧ (0 ≤ a ∧ a ≤ 23))) (hd : 3 ≤ d) : Ex d 160 [.ref 92, .int km, .int a] (N, H3 g P (mm Y S)) (some (.int (-2))) (N, H3 g P (mm Y S)) := by
  refine Ex.of ?_
  show Wp _ 160 0 [.ref 92, .int km, .int a, .null] [] _ _
  refine W_iload_n d_160_0 rfl ?_
  refine W_iconst d_160_1 (v := 0) (by decide) ?_
  refine W_bipush d_160_2 (v := 59) (by decide) ?_
  refine W_callS d_160_4 o_160 k_7_96 (by omega) x_135 rfl (Nat.le_of_ble_eq_true rfl) ?_
  refine W_if_eq (tgt := 20) d_160_7 (by decide) (fun h7 => ?_) (fun h7 => ?_)
  · refine W_bipush d_160_20 (v := (-2)) (by decide) ?_
    refine W_iret d_160_22 rt_160 rfl ?_
    exact ⟨rfl, rfl⟩
  · refine W_iload_n d_160_10 rfl ?_
    refine W_iconst d_160_11 (v := 0) (by decide) ?_
    refine W_bipush d_160_12 (v := 23) (by decide) ?_
    refine W_callS d_160_14 o_160 k_7_96 (by omega) x_135 rfl (Nat.le_of_ble_eq_true rfl) ?_
    refine W_if_ne (tgt := 23) d_160_17 (by decide) (fun h17 => ?_) (fun h17 => ?_)
    · exact (hb ⟨bI_t h7, bI_t h17⟩).elim
    · refine W_bipush d_160_20 (v := (-2)) (by decide) ?_
      refine W_iret d_160_22 rt_160 rfl ?_
      exact ⟨rfl, rfl⟩
theorem q_160f {d : Nat} {g : mG} {N : Nat} {P : Nat → mC} {Y : tR} {S : Nat → Int32} {km a : Int32} (hb : (0 ≤ km ∧ km ≤ 59) ∧ (0 ≤ a ∧ a ≤ 23)) (hn : S 0 = nI 12) (hd : 3 ≤ d) : Ex d 160 [.ref 92, .int km, .int a] (N, H3 g P (mm Y S)) (some (.int (-4))) (N, H3 g P (mm Y S)) := by
  refine Ex.of ?_
  show Wp _ 160 0 [.ref 92, .int km, .int a, .null] [] _ _
  refine W_iload_n d_160_0 rfl ?_
  refine W_iconst d_160_1 (v := 0) (by decide) ?_
  refine W_bipush d_160_2 (v := 59) (by decide) ?_
  refine W_callS d_160_4 o_160 k_7_96 (by omega) x_135 rfl (Nat.le_of_ble_eq_true rfl) ?_
  refine W_if_eq (tgt := 20) d_160_7 (by decide) (fun h7 => absurd h7 (fun q => bI_f q hb.1)) (fun h7 => ?_)
  refine W_iload_n d_160_10 rfl ?_
  refine W_iconst d_160_11 (v := 0) (by decide) ?_
  refine W_bipush d_160_12 (v := 23) (by decide) ?_
  refine W_callS d_160_14 o_160 k_7_96 (by omega) x_135 rfl (Nat.le_of_ble_eq_true rfl) ?_
  refine W_if_ne (tgt := 23) d_160_17 (by decide) (fun h17 => ?_) (fun h17 => absurd h17 (fun q => bI_f q hb.2))
  refine W_aload_n d_160_23 rfl (by decide) ?_
  refine W_getf d_160_24 o_160 k_7_93 rfl rfl ?_
  rw [hn]
  refine W_bipush d_160_27 (v := 12) (by decide) ?_
  refine W_icmp_ne (tgt := 35) d_160_29 (by decide) (fun h29 => absurd (show nI 12 = 12 from rfl) h29) (fun h29 => ?_)
  refine W_bipush d_160_32 (v := (-4)) (by decide) ?_
  refine W_iret d_160_34 rt_160 rfl ?_
  exact ⟨rfl, rfl⟩
theorem q_160 {d : Nat} {g : mG} {N : Nat} {P : Nat → mC} {Y : tR} {S : Nat → Int32} {km a : Int32} (hb : (0 ≤ km ∧ km ≤ 59) ∧ (0 ≤ a ∧ a ≤ 23)) {n : Nat} (hn : S 0 = nI n) (hn12 : n < 12) (hd : 3 ≤ d) : Ex d 160 [.ref 92, .int km, .int a] (N, H3 g P (mm Y S)) (some (.int (nI n))) (N, H3 g P (mm (owY Y n km a) (va_up S 0 (nI (n + 1))))) := by
  refine Ex.of ?_
  show Wp _ 160 0 [.ref 92, .int km, .int a, .null] [] _ _
  refine W_iload_n d_160_0 rfl ?_
  refine W_iconst d_160_1 (v := 0) (by decide) ?_
  refine W_bipush d_160_2 (v := 59) (by decide) ?_
  refine W_callS d_160_4 o_160 k_7_96 (by omega) x_135 rfl (Nat.le_of_ble_eq_true rfl) ?_
  refine W_if_eq (tgt := 20) d_160_7 (by decide) (fun h7 => absurd h7 (fun q => bI_f q hb.1)) (fun h7 => ?_)
  refine W_iload_n d_160_10 rfl ?_
  refine W_iconst d_160_11 (v := 0) (by decide) ?_
  refine W_bipush d_160_12 (v := 23) (by decide) ?_
  refine W_callS d_160_14 o_160 k_7_96 (by omega) x_135 rfl (Nat.le_of_ble_eq_true rfl) ?_
  refine W_if_ne (tgt := 23) d_160_17 (by decide) (fun h17 => ?_) (fun h17 => absurd h17 (fun q => bI_f q hb.2))
  refine W_aload_n d_160_23 rfl (by decide) ?_
  refine W_getf d_160_24 o_160 k_7_93 rfl rfl ?_
  rw [hn]
  refine W_bipush d_160_27 (v := 12) (by decide) ?_
  refine W_icmp_ne (tgt := 35) d_160_29 (by decide) (fun h29 => ?_) (fun h29 => absurd h29 (fun q => absurd ((nI_eq (a := n) (b := 12) (by omega) (by omega)).mp q) (show ¬ n = 12 by omega)))
  refine W_aload_n d_160_35 rfl (by decide) ?_
  refine W_getf d_160_36 o_160 k_7_7 rfl rfl ?_
  refine W_aload_n d_160_39 rfl (by decide) ?_
  refine W_getf d_160_40 o_160 k_7_93 rfl rfl ?_
  rw [hn]
  refine W_iload_n d_160_43 rfl ?_
  refine W_bipush d_160_44 (v := 10) (by decide) ?_
  refine W_idiv d_160_46 (by decide) ?_
  refine W_mst (a := 0) d_160_47 rfl (by decide) (n := 12) rfl (vp_in_nI (by omega) (by decide)) (nI_clamp (by omega)) ?_
  refine W_aload_n d_160_48 rfl (by decide) ?_
  refine W_getf d_160_49 o_160 k_7_13 rfl rfl ?_
  refine W_aload_n d_160_52 rfl (by decide) ?_
  refine W_getf d_160_53 o_160 k_7_93 rfl rfl ?_
  rw [hn]
  refine W_iload_n d_160_56 rfl ?_
  refine W_bipush d_160_57 (v := 10) (by decide) ?_
  refine W_irem d_160_59 (by decide) ?_
  refine W_mst (a := 1) d_160_60 rfl (by decide) (n := 12) rfl (vp_in_nI (by omega) (by decide)) (nI_clamp (by omega)) ?_
  refine W_iconst d_160_61 (v := 0) (by decide) ?_
  refine W_istore_n d_160_62 rfl ?_
  refine W_iload_n d_160_63 rfl ?_
  refine W_iconst d_160_64 (v := 5) (by decide) ?_
  refine W_icmp_ge (tgt := 97) d_160_65 (by decide) (fun h65 => absurd h65 (by decide)) (fun _ => ?_)
  refine W_aload_n d_160_68 rfl (by decide) ?_
  refine W_getf d_160_69 o_160 k_7_16 rfl rfl ?_
  refine W_iconst d_160_72 (v := 5) (by decide) ?_
  refine W_aload_n d_160_73 rfl (by decide) ?_
  refine W_getf d_160_74 o_160 k_7_93 rfl rfl ?_
  rw [hn]
  refine W_imul d_160_77 ?_
  rw [show ((5 * nI n : Int32)) = nI (5 * n) from pk_mul 5 n]
  refine W_iload_n d_160_78 rfl ?_
  refine W_iadd d_160_79 ?_
  rw [show ((nI (5 * n) + 0 : Int32)) = nI (5 * n + 0) from nI_add (5 * n) 0]
  refine W_iload_n d_160_80 rfl ?_
  refine W_iconst d_160_81 (v := 3) (by decide) ?_
  refine W_icmp_ne (tgt := 89) d_160_82 (by decide) (fun _ => ?_) (fun h82 => absurd h82 (by decide))
  refine W_iconst d_160_89 (v := 0) (by decide) ?_
  refine W_mst (a := 2) d_160_90 rfl (by decide) (n := 60) rfl (vp_in_nI (by omega) (by decide)) (nI_clamp (by omega)) ?_
  refine W_iinc (v := 1) d_160_91 rfl (by decide) rfl ?_
  rw [show ((0 + 1 : Int32)) = 1 from by decide]
  refine W_goto (tgt := 63) d_160_94 (by decide) ?_
  refine W_iload_n d_160_63 rfl ?_
  refine W_iconst d_160_64 (v := 5) (by decide) ?_
  refine W_icmp_ge (tgt := 97) d_160_65 (by decide) (fun h65 => absurd h65 (by decide)) (fun _ => ?_)
  refine W_aload_n d_160_68 rfl (by decide) ?_
  refine W_getf d_160_69 o_160 k_7_16 rfl rfl ?_
  refine W_iconst d_160_72 (v := 5) (by decide) ?_
  refine W_aload_n d_160_73 rfl (by decide) ?_
  refine W_getf d_160_74 o_160 k_7_93 rfl rfl ?_
  rw [hn]
  refine W_imul d_160_77 ?_
  rw [show ((5 * nI n : Int32)) = nI (5 * n) from pk_mul 5 n]
  refine W_iload_n d_160_78 rfl ?_
  refine W_iadd d_160_79 ?_
  rw [show ((nI (5 * n) + 1 : Int32)) = nI (5 * n + 1) from nI_add (5 * n) 1]
  refine W_iload_n d_160_80 rfl ?_
  refine W_iconst d_160_81 (v := 3) (by decide) ?_
  refine W_icmp_ne (tgt := 89) d_160_82 (by decide) (fun _ => ?_) (fun h82 => absurd h82 (by decide))
  refine W_iconst d_160_89 (v := 0) (by decide) ?_
  refine W_mst (a := 2) d_160_90 rfl (by decide) (n := 60) rfl (vp_in_nI (by omega) (by decide)) (nI_clamp (by omega)) ?_
  refine W_iinc (v := 1) d_160_91 rfl (by decide) rfl ?_
  rw [show ((1 + 1 : Int32)) = 2 from by decide]
  refine W_goto (tgt := 63) d_160_94 (by decide) ?_
  refine W_iload_n d_160_63 rfl ?_
  refine W_iconst d_160_64 (v := 5) (by decide) ?_
  refine W_icmp_ge (tgt := 97) d_160_65 (by decide) (fun h65 => absurd h65 (by decide)) (fun _ => ?_)
  refine W_aload_n d_160_68 rfl (by decide) ?_
  refine W_getf d_160_69 o_160 k_7_16 rfl rfl ?_
  refine W_iconst d_160_72 (v := 5) (by decide) ?_
  refine W_aload_n d_160_73 rfl (by decide) ?_
  refine W_getf d_160_74 o_160 k_7_93 rfl rfl ?_
  rw [hn]
  refine W_imul d_160_77 ?_
  rw [show ((5 * nI n : Int32)) = nI (5 * n) from pk_mul 5 n]
  refine W_iload_n d_160_78 rfl ?_
  refine W_iadd d_160_79 ?_
  rw [show ((nI (5 * n) + 2 : Int32)) = nI (5 * n + 2) from nI_add (5 * n) 2]
  refine W_iload_n d_160_80 rfl ?_
  refine W_iconst d_160_81 (v := 3) (by decide) ?_
  refine W_icmp_ne (tgt := 89) d_160_82 (by decide) (fun _ => ?_) (fun h82 => absurd h82 (by decide))
  refine W_iconst d_160_89 (v := 0) (by decide) ?_
  refine W_mst (a := 2) d_160_90 rfl (by decide) (n := 60) rfl (vp_in_nI (by omega) (by decide)) (nI_clamp (by omega)) ?_
  refine W_iinc (v := 1) d_160_91 rfl (by decide) rfl ?_
  rw [show ((2 + 1 : Int32)) = 3 from by decide]
  refine W_goto (tgt := 63) d_160_94 (by decide) ?_
  refine W_iload_n d_160_63 rfl ?_
  refine W_iconst d_160_64 (v := 5) (by decide) ?_
  refine W_icmp_ge (tgt := 97) d_160_65 (by decide) (fun h65 => absurd h65 (by decide)) (fun _ => ?_)
  refine W_aload_n d_160_68 rfl (by decide) ?_
  refine W_getf d_160_69 o_160 k_7_16 rfl rfl ?_
  refine W_iconst d_160_72 (v := 5) (by decide) ?_
  refine W_aload_n d_160_73 rfl (by decide) ?_
  refine W_getf d_160_74 o_160 k_7_93 rfl rfl ?_
  rw [hn]
  refine W_imul d_160_77 ?_
  rw [show ((5 * nI n : Int32)) = nI (5 * n) from pk_mul 5 n]
  refine W_iload_n d_160_78 rfl ?_
  refine W_iadd d_160_79 ?_
  rw [show ((nI (5 * n) + 3 : Int32)) = nI (5 * n + 3) from nI_add (5 * n) 3]
  refine W_iload_n d_160_80 rfl ?_
  refine W_iconst d_160_81 (v := 3) (by decide) ?_
  refine W_icmp_ne (tgt := 89) d_160_82 (by decide) (fun h82 => absurd h82 (by decide)) (fun _ => ?_)
  refine W_iload_n d_160_85 rfl ?_
  refine W_goto (tgt := 90) d_160_86 (by decide) ?_
  refine W_mst (a := 2) d_160_90 rfl (by decide) (n := 60) rfl (vp_in_nI (by omega) (by decide)) (nI_clamp (by omega)) ?_
  refine W_iinc (v := 1) d_160_91 rfl (by decide) rfl ?_
  rw [show ((3 + 1 : Int32)) = 4 from by decide]
  refine W_goto (tgt := 63) d_160_94 (by decide) ?_
  refine W_iload_n d_160_63 rfl ?_
  refine W_iconst d_160_64 (v := 5) (by decide) ?_
  refine W_icmp_ge (tgt := 97) d_160_65 (by decide) (fun h65 => absurd h65 (by decide)) (fun _ => ?_)
  refine W_aload_n d_160_68 rfl (by decide) ?_
  refine W_getf d_160_69 o_160 k_7_16 rfl rfl ?_
  refine W_iconst d_160_72 (v := 5) (by decide) ?_
  refine W_aload_n d_160_73 rfl (by decide) ?_
  refine W_getf d_160_74 o_160 k_7_93 rfl rfl ?_
  rw [hn]
  refine W_imul d_160_77 ?_
  rw [show ((5 * nI n : Int32)) = nI (5 * n) from pk_mul 5 n]
  refine W_iload_n d_160_78 rfl ?_
  refine W_iadd d_160_79 ?_
  rw [show ((nI (5 * n) + 4 : Int32)) = nI (5 * n + 4) from nI_add (5 * n) 4]
  refine W_iload_n d_160_80 rfl ?_
  refine W_iconst d_160_81 (v := 3) (by decide) ?_
  refine W_icmp_ne (tgt := 89) d_160_82 (by decide) (fun _ => ?_) (fun h82 => absurd h82 (by decide))
  refine W_iconst d_160_89 (v := 0) (by decide) ?_
  refine W_mst (a := 2) d_160_90 rfl (by decide) (n := 60) rfl (vp_in_nI (by omega) (by decide)) (nI_clamp (by omega)) ?_
  refine W_iinc (v := 1) d_160_91 rfl (by decide) rfl ?_
  rw [show ((4 + 1 : Int32)) = 5 from by decide]
  refine W_goto (tgt := 63) d_160_94 (by decide) ?_
  refine W_iload_n d_160_63 rfl ?_
  refine W_iconst d_160_64 (v := 5) (by decide) ?_
  refine W_icmp_ge (tgt := 97) d_160_65 (by decide) (fun _ => ?_) (fun h65 => absurd h65 (by decide))
  refine W_aload_n d_160_97 rfl (by decide) ?_
  refine W_dup d_160_98 rfl ?_
  refine W_getf d_160_99 o_160 k_7_93 rfl rfl ?_
  rw [hn]
  refine W_iconst d_160_102 (v := 1) (by decide) ?_
  refine W_iadd d_160_103 ?_
  rw [show ((nI n + 1 : Int32)) = nI (n + 1) from nI_add n 1]
  refine W_putf d_160_104 o_160 k_7_93 rfl (Nat.le_of_ble_eq_true rfl) rfl mm_s0 ?_
  refine W_aload_n d_160_107 rfl (by decide) ?_
  refine W_getf d_160_108 o_160 k_7_93 rfl rfl ?_
  rw [show va_up S 0 (nI (n + 1)) 0 = nI (n + 1) from va_same _ _ _]
  refine W_iconst d_160_111 (v := 1) (by decide) ?_
  refine W_isub d_160_112 ?_
  refine W_iret d_160_113 rt_160 rfl ?_
  exact ⟨congrArg (fun z => some (Value.int z)) (nI_pred n), rfl⟩
theorem MS.own {Y : tR} {S : Nat → Int32} {A : Nat → tR} {r : Nat} {Lr : tR} {z : Nat → Nat} {n p t : Nat} {km a : Int32} (hX : MS Y S (A r) Lr z n p t) (h12 : n < 12) : MS (owY Y n km a) (va_up S 0 (nI (n + 1))) (u3 (ow0 A r n (km / 10) (i_mod km 10) a) r 12 0 (nI n + 1) r) Lr z (n + 1) p t := by
  obtain ⟨hq, hn, hn12, hp, hp6, hlw, ht, hL, hM, hB⟩ := hX
  refine ⟨es_own hq, ?_, by omega, ?_, hp6, ?_, ht, hL, FRm.lm (ow_frm (S := S) (v := 0)) hM, fun j hj => ?_⟩
  · rw [owr_ap, if_pos ⟨rfl, rfl⟩, nI_succ]
  · rw [owr_ap, if_neg (by omega), if_neg (by omega), if_neg (by omega), if_neg (by omega), if_neg (by omega)]; exact hp
  · rw [owr_ap, if_neg (by omega), if_neg (by omega), if_neg (by omega), if_neg (by omega), if_neg (by omega)]; exact hlw
  · rw [owr_ap, if_neg (by omega), if_neg (by omega), if_neg (by omega), if_neg (by omega)]
    split
    · exact Int32.le_refl _
    · exact hB j (by omega)
theorem q_160u {d : Nat} {g : mG} {N : Nat} {P : Nat → mC} {Y : tR} {S : Nat → Int32} {A : Nat → tR} {r : Nat} {Lr : tR} {z : Nat → Nat} {n p t : Nat} (hX : MS Y S (A r) Lr z n p t) {km a : Int32} (hd : 3 ≤ d) : Wp d 160 0 (ment 160 [.ref 92, .int km, .int a]) [] (N, H3 g P (mm Y S)) (fun v M' => v = some (.int (obv n km a)) ∧ ∃ Y' S', M' = (N, H3 g P (mm Y' S')) ∧ MS Y' S' ((ob1 A r n km a).1 r) Lr z (ob1 A r n km a).2 p t ∧ FRm Y S Y' S') := by
  have hn12 := hX.2.2.1
  unfold obv ob1
  by_cases hb : (0 ≤ km ∧ km ≤ 59) ∧ (0 ≤ a ∧ a ≤ 23)
  · rw [if_neg (fun q => q hb)]
    by_cases h12 : n < 12
    · rw [if_pos h12, if_pos ⟨hb, h12⟩]
      exact (q_160 hb hX.n0 h12 hd).wp ⟨rfl, _, _, rfl, hX.own h12, ow_frm⟩
    · rw [if_neg h12, if_neg (fun q => h12 q.2)]
      have e12 : n = 12 := by omega
      subst e12
      exact (q_160f hb hX.n0 hd).wp ⟨rfl, _, _, rfl, hX, FRm.refl⟩
  · rw [if_pos hb, if_neg (fun q => hb q.1)]
    exact (q_160b hb hd).wp ⟨rfl, _, _, rfl, hX, FRm.refl⟩
theorem sub2T {sz : Nat} (h40 : sz ≤ 40) : (nI sz - 2).toInt = (sz : Int) - 2 := by
  rw [Int32.toInt_sub, nI_toInt (by omega), show (2 : Int32).toInt = 2 from rfl, Int.bmod_eq_of_le (by omega) (by omega)]
theorem sub2_le {sz x : Nat} (h40 : sz ≤ 40) (h : x + 2 ≤ sz) : nI x ≤ nI sz - 2 := by
  rw [Int32.le_iff_toInt_le, sub2T h40, nI_toInt (by omega)]
  omega
theorem sub2_of {sz x : Nat} (h40 : sz ≤ 40) (hx : x < 2 ^ 31) (h : nI x ≤ nI sz - 2) : x + 2 ≤ sz := by
  rw [Int32.le_iff_toInt_le, sub2T h40, nI_toInt hx] at h
  omega
theorem places_iff {sz x : Nat} (h40 : sz ≤ 40) (hx : x < 2 ^ 31) : (0 ≤ nI x ∧ 0 ≤ (2 : Int32) ∧ 2 ≤ nI sz - nI x) ↔ x + 2 ≤ sz := by
  have t : (nI sz - nI x).toInt = (sz : Int) - x := by
    rw [Int32.toInt_sub, nI_toInt (by omega), nI_toInt hx, Int.bmod_eq_of_le (by omega) (by omega)]
  constructor
  · rintro ⟨_, _, h⟩
    rw [Int32.le_iff_toInt_le, t, show (2 : Int32).toInt = 2 from rfl] at h
    omega
  · intro h
    refine ⟨nI_pos' hx, by decide, ?_⟩
    rw [Int32.le_iff_toInt_le, t, show (2 : Int32).toInt = 2 from rfl]
    omega
theorem lq_209 {d : Nat} {g : mG} {N : Nat} {P : Nat → mC} {Y0 : tR} {S0 : Nat → Int32} {r : Nat} {Lr : tR} {z : Nat → Nat} {p t : Nat} {K : Nat → tR} {s sz nn a : Nat} (hs : s < 4) (hsz : K s 1 1 = nI sz) (h40 : sz ≤ 40) (hnn : nn ≤ 12) {so : Int32} (hd : 9 ≤ d) {Q : Option Value → mM → Prop} : ∀ (k i : Nat) (Y : tR) (S : Nat → Int32) (A : Nat → tR) (n c : Nat) (c7 c8 : Value), i + k = nn → a + 2 * i < 2 ^ 31 → MS Y S (A r) Lr z n p t → SHR K Y → c ≤ i → FRm Y0 S0 Y S → (∀ Y' S', MS Y' S' ((obR K s r k (nI (a + 2 * i)) (A, n) c).2.1 r) Lr z (obR K s r k (nI (a + 2 * i)) (A, n) c).2.2 p t → FRm Y0 S0 Y' S' → Q (some (.int (obR K s r k (nI (a + 2 * i)) (A, n) c).1)) (N, H3 g P (mm Y' S'))) → Wp d 209 64 [.ref 92, .int (nI s), .int so, .int (nI a), .int (nI nn), .int (nI c), .int (nI i), c7, c8] [] (N, H3 g P (mm Y S)) Q := by
  intro k
  induction k with
  | zero =>
    intro i Y S A n c c7 c8 hi ha hX hK hc hF hQ
    refine W_iload d_209_64 rfl ?_
    refine W_iload d_209_66 rfl ?_
    refine W_icmp_ge (tgt := 153) d_209_68 (by decide) (fun h68 => ?_) (fun h68 => absurd (nI_le (a := nn) (b := i) (by omega) (by omega)) h68)
    refine W_iload d_209_153 rfl ?_
    refine W_iret d_209_155 rt_209 rfl ?_
    exact hQ _ _ hX hF
  | succ k ih =>
    intro i Y S A n c c7 c8 hi ha hX hK hc hF hQ
    refine W_iload d_209_64 rfl ?_
    refine W_iload d_209_66 rfl ?_
    refine W_icmp_ge (tgt := 153) d_209_68 (by decide) (fun h68 => absurd h68 (nI_ge (a := i) (b := nn) (by omega) (by omega))) (fun h68 => ?_)
    refine W_iload_n d_209_71 rfl ?_
    refine W_iconst d_209_72 (v := 2) (by decide) ?_
    refine W_iload d_209_73 rfl ?_
    refine W_imul d_209_75 ?_
    rw [show ((2 * nI i : Int32)) = nI (2 * i) from pk_mul 2 i]
    refine W_iadd d_209_76 ?_
    rw [show ((nI a + nI (2 * i) : Int32)) = nI (a + 2 * i) from nI_add a (2 * i)]
    refine W_istore d_209_77 rfl ?_
    refine W_iload_n d_209_79 rfl ?_
    refine W_if_lt (tgt := 102) d_209_80 (by decide) (fun h80 => absurd h80 (nI_nlt (a := a) (b := 0) (by omega) (by omega))) (fun h80 => ?_)
    refine W_iload d_209_83 rfl ?_
    refine W_iload_n d_209_85 rfl ?_
    refine W_icmp_lt (tgt := 102) d_209_86 (by decide) (fun h86 => absurd h86 (nI_nlt (a := a + 2 * i) (b := a) (by omega) (by omega))) (fun h86 => ?_)
    refine W_iload d_209_89 rfl ?_
    refine W_aload_n d_209_91 rfl (by decide) ?_
    refine W_getf d_209_92 o_209 k_7_50 rfl rfl ?_
    refine W_iload_n d_209_95 rfl ?_
    refine W_mld (a := 12) d_209_96 rfl (by decide) (n := 4) rfl (vp_in_nI (by omega) (by decide)) ((congrArg (Y 12) (nI_clamp (by omega))).trans ((hK s hs).2.1.trans hsz)) ?_
    refine W_iconst d_209_97 (v := 2) (by decide) ?_
    refine W_isub d_209_98 ?_
    refine W_icmp_le (tgt := 105) d_209_99 (by decide) (fun h99 => ?_) (fun h99 => ?_)
    · have hle : a + 2 * i + 2 ≤ sz := sub2_of h40 (by omega) h99
      refine W_bipush d_209_105 (v := 40) (by decide) ?_
      refine W_iload_n d_209_107 rfl ?_
      refine W_imul d_209_108 ?_
      rw [show ((40 * nI s : Int32)) = nI (40 * s) from pk_mul 40 s]
      refine W_iload d_209_109 rfl ?_
      refine W_iadd d_209_111 ?_
      rw [show ((nI (40 * s) + nI (a + 2 * i) : Int32)) = nI (40 * s + (a + 2 * i)) from nI_add (40 * s) (a + 2 * i)]
      refine W_istore d_209_112 rfl ?_
      refine W_iload d_209_114 rfl ?_
      refine W_aload_n d_209_116 rfl (by decide) ?_
      refine W_aload_n d_209_117 rfl (by decide) ?_
      refine W_getf d_209_118 o_209 k_7_53 rfl rfl ?_
      refine W_iload d_209_121 rfl ?_
      refine W_mld (a := 13) d_209_123 rfl (by decide) (n := 160) rfl (vp_in_nI (by omega) (by decide)) ((congrArg (Y 13) (nI_clamp (by omega))).trans (show Y 13 (40 * s + (a + 2 * i)) = K s 0 (a + 2 * i) from (hK s hs).2.2 _ (by omega))) ?_
      refine W_aload_n d_209_124 rfl (by decide) ?_
      refine W_getf d_209_125 o_209 k_7_53 rfl rfl ?_
      refine W_iload d_209_128 rfl ?_
      refine W_iconst d_209_130 (v := 1) (by decide) ?_
      refine W_iadd d_209_131 ?_
      rw [show ((nI (40 * s + (a + 2 * i)) + 1 : Int32)) = nI (40 * s + (a + 2 * i) + 1) from nI_add (40 * s + (a + 2 * i)) 1]
      refine W_mld (a := 13) d_209_132 rfl (by decide) (n := 160) rfl (vp_in_nI (by omega) (by decide)) ((congrArg (Y 13) (nI_clamp (by omega))).trans (show Y 13 (40 * s + (a + 2 * i) + 1) = K s 0 (a + 2 * i + 1) from (hK s hs).2.2 (a + 2 * i + 1) (by omega))) ?_
      refine W_callVQ d_209_133 o_209 (Or.inl k_7_289) (by omega) (q_160u (A := A) (r := r) hX (by omega)) rfl (mrecv_of rfl o_160.symm) rfl (Nat.le_of_ble_eq_true rfl) ?_
      rintro _ _ ⟨rfl, Y1, S1, rfl, hX1, hF1⟩
      refine W_if_lt (tgt := 143) d_209_136 (by decide) (fun h136 => ?_) (fun h136 => ?_)
      · refine W_iconst d_209_143 (v := 0) (by decide) ?_
        refine W_iadd d_209_144 ?_
        rw [show ((nI c + 0 : Int32)) = nI (c + 0) from nI_add c 0]
        
        refine W_istore d_209_145 rfl ?_
        refine W_iinc (v := 1) d_209_147 rfl (by decide) rfl ?_
        rw [show ((nI i + 1 : Int32)) = nI (i + 1) from nI_add i 1]
        refine W_goto (tgt := 64) d_209_150 (by decide) ?_
        have hok : a + 2 * i + 2 ≤ sz := by omega
        rw [obR, if_pos (hsz.symm ▸ (places_iff h40 (by omega)).mpr hok), show (nI (a + 2 * i) + 2 : Int32) = nI (a + 2 * (i + 1)) from nI_add _ 2, ← nI_succ, nI_clamp (show a + 2 * i < 2 ^ 31 by omega), nI_clamp (show a + 2 * i + 1 < 2 ^ 31 by omega)] at hQ
        simp only [if_neg (fun q => absurd ((obv_ge (A := A) (r := r) (n := n) (km := K s 0 (a + 2 * i)) (a := K s 0 (a + 2 * i + 1)) hX.2.2.1).mpr q) (Int32.not_le.mpr h136))] at hQ
        exact ih (i + 1) _ _ (ob1 A r n (K s 0 (a + 2 * i)) (K s 0 (a + 2 * i + 1))).1 (ob1 A r n (K s 0 (a + 2 * i)) (K s 0 (a + 2 * i + 1))).2 _ _ _ (by omega) (by omega) hX1 (hF1.shr hK) (by omega) (hF.trans hF1) hQ
      · refine W_iconst d_209_139 (v := 1) (by decide) ?_
        refine W_goto (tgt := 144) d_209_140 (by decide) ?_
        refine W_iadd d_209_144 ?_
        rw [show ((nI c + 1 : Int32)) = nI (c + 1) from nI_add c 1]
        
        refine W_istore d_209_145 rfl ?_
        refine W_iinc (v := 1) d_209_147 rfl (by decide) rfl ?_
        rw [show ((nI i + 1 : Int32)) = nI (i + 1) from nI_add i 1]
        refine W_goto (tgt := 64) d_209_150 (by decide) ?_
        have hok : a + 2 * i + 2 ≤ sz := by omega
        rw [obR, if_pos (hsz.symm ▸ (places_iff h40 (by omega)).mpr hok), show (nI (a + 2 * i) + 2 : Int32) = nI (a + 2 * (i + 1)) from nI_add _ 2, ← nI_succ, nI_clamp (show a + 2 * i < 2 ^ 31 by omega), nI_clamp (show a + 2 * i + 1 < 2 ^ 31 by omega)] at hQ
        simp only [if_pos ((obv_ge (A := A) (r := r) (n := n) (km := K s 0 (a + 2 * i)) (a := K s 0 (a + 2 * i + 1)) hX.2.2.1).mp (Int32.not_lt.mp h136))] at hQ
        exact ih (i + 1) _ _ (ob1 A r n (K s 0 (a + 2 * i)) (K s 0 (a + 2 * i + 1))).1 (ob1 A r n (K s 0 (a + 2 * i)) (K s 0 (a + 2 * i + 1))).2 _ _ _ (by omega) (by omega) hX1 (hF1.shr hK) (by omega) (hF.trans hF1) hQ
    · have h99q : ¬ nI (a + 2 * i) ≤ nI sz - 2 := h99
      have hno : ¬ a + 2 * i + 2 ≤ sz := fun q => h99q (sub2_le h40 q)
      refine W_bipush d_209_102 (v := (-12)) (by decide) ?_
      refine W_iret d_209_104 rt_209 rfl ?_
      rw [obR, if_neg (fun q => hno ((places_iff h40 (by omega)).mp (hsz ▸ q)))] at hQ
      exact hQ _ _ hX hF
theorem q_209a {d : Nat} {g : mG} {N : Nat} {P : Nat → mC} {Y : tR} {S : Nat → Int32} {v so at0 w : Int32} (hb : ¬ ((0 ≤ v ∧ v ≤ 3) ∧ (0 ≤ so ∧ so ≤ 2) ∧ (0 ≤ w ∧ w ≤ 12))) (hd : 4 ≤ d) : Ex d 209 [.ref 92, .int v, .int so, .int at0, .int w] (N, H3 g P (mm Y S)) (some (.int (-2))) (N, H3 g P (mm Y S)) := by
  refine Ex.of ?_
  show Wp _ 209 0 [.ref 92, .int v, .int so, .int at0, .int w, .null, .null, .null, .null] [] _ _
  refine W_iload_n d_209_0 rfl ?_
  refine W_iconst d_209_1 (v := 0) (by decide) ?_
  refine W_iconst d_209_2 (v := 3) (by decide) ?_
  refine W_callS d_209_3 o_209 k_7_96 (by omega) x_135 rfl (Nat.le_of_ble_eq_true rfl) ?_
  refine W_if_eq (tgt := 29) d_209_6 (by decide) (fun h6 => ?_) (fun h6 => ?_)
  · refine W_bipush d_209_29 (v := (-2)) (by decide) ?_
    refine W_iret d_209_31 rt_209 rfl ?_
    exact ⟨rfl, rfl⟩
  · refine W_iload_n d_209_9 rfl ?_
    refine W_iconst d_209_10 (v := 0) (by decide) ?_
    refine W_iconst d_209_11 (v := 2) (by decide) ?_
    refine W_callS d_209_12 o_209 k_7_96 (by omega) x_135 rfl (Nat.le_of_ble_eq_true rfl) ?_
    refine W_if_eq (tgt := 29) d_209_15 (by decide) (fun h15 => ?_) (fun h15 => ?_)
    · refine W_bipush d_209_29 (v := (-2)) (by decide) ?_
      refine W_iret d_209_31 rt_209 rfl ?_
      exact ⟨rfl, rfl⟩
    · refine W_iload d_209_18 rfl ?_
      refine W_iconst d_209_20 (v := 0) (by decide) ?_
      refine W_bipush d_209_21 (v := 12) (by decide) ?_
      refine W_callS d_209_23 o_209 k_7_96 (by omega) x_135 rfl (Nat.le_of_ble_eq_true rfl) ?_
      refine W_if_ne (tgt := 32) d_209_26 (by decide) (fun h26 => ?_) (fun h26 => ?_)
      · exact (hb ⟨bI_t h6, bI_t h15, bI_t h26⟩).elim
      · refine W_bipush d_209_29 (v := (-2)) (by decide) ?_
        refine W_iret d_209_31 rt_209 rfl ?_
        exact ⟨rfl, rfl⟩
theorem q_209b {d : Nat} {g : mG} {N : Nat} {P : Nat → mC} {Y : tR} {S : Nat → Int32} {K : Nat → tR} (hK : SHR K Y) {s : Nat} (hs : s < 4) {so at0 : Int32} (hso : 0 ≤ so ∧ so ≤ 2) {nn : Nat} (hnn : nn ≤ 12) (hm : K s 1 0 = -1) (hd : 4 ≤ d) : Ex d 209 [.ref 92, .int (nI s), .int so, .int at0, .int (nI nn)] (N, H3 g P (mm Y S)) (some (.int (-11))) (N, H3 g P (mm Y S)) := by
  refine Ex.of ?_
  show Wp _ 209 0 [.ref 92, .int (nI s), .int so, .int at0, .int (nI nn), .null, .null, .null, .null] [] _ _
  refine W_iload_n d_209_0 rfl ?_
  refine W_iconst d_209_1 (v := 0) (by decide) ?_
  refine W_iconst d_209_2 (v := 3) (by decide) ?_
  refine W_callS d_209_3 o_209 k_7_96 (by omega) x_135 rfl (Nat.le_of_ble_eq_true rfl) ?_
  refine W_if_eq (tgt := 29) d_209_6 (by decide) (fun h6 => absurd h6 (fun q => bI_f q ⟨nI_pos' (by omega), nI_le (a := s) (b := 3) (by omega) (by decide)⟩)) (fun h6 => ?_)
  refine W_iload_n d_209_9 rfl ?_
  refine W_iconst d_209_10 (v := 0) (by decide) ?_
  refine W_iconst d_209_11 (v := 2) (by decide) ?_
  refine W_callS d_209_12 o_209 k_7_96 (by omega) x_135 rfl (Nat.le_of_ble_eq_true rfl) ?_
  refine W_if_eq (tgt := 29) d_209_15 (by decide) (fun h15 => absurd h15 (fun q => bI_f q hso)) (fun h15 => ?_)
  refine W_iload d_209_18 rfl ?_
  refine W_iconst d_209_20 (v := 0) (by decide) ?_
  refine W_bipush d_209_21 (v := 12) (by decide) ?_
  refine W_callS d_209_23 o_209 k_7_96 (by omega) x_135 rfl (Nat.le_of_ble_eq_true rfl) ?_
  refine W_if_ne (tgt := 32) d_209_26 (by decide) (fun h26 => ?_) (fun h26 => absurd h26 (fun q => bI_f q ⟨nI_pos' (by omega), nI_le (a := nn) (b := 12) hnn (by decide)⟩))
  refine W_aload_n d_209_32 rfl (by decide) ?_
  refine W_getf d_209_33 o_209 k_7_47 rfl rfl ?_
  refine W_iload_n d_209_36 rfl ?_
  refine W_mld (a := 11) d_209_37 rfl (by decide) (n := 4) rfl (vp_in_nI (by omega) (by decide)) ((congrArg (Y 11) (nI_clamp (by omega))).trans (hK s hs).1) ?_
  refine W_iconst d_209_38 (v := (-1)) (by decide) ?_
  refine W_icmp_ne (tgt := 45) d_209_39 (by decide) (fun h39 => absurd hm h39) (fun h39 => ?_)
  refine W_bipush d_209_42 (v := (-11)) (by decide) ?_
  refine W_iret d_209_44 rt_209 rfl ?_
  exact ⟨rfl, rfl⟩
theorem q_209c {d : Nat} {g : mG} {N : Nat} {P : Nat → mC} {Y : tR} {S : Nat → Int32} {K : Nat → tR} (hK : SHR K Y) {s : Nat} (hs : s < 4) {so at0 : Int32} (hso : 0 ≤ so ∧ so ≤ 2) {nn : Nat} (hnn : nn ≤ 12) (hm : ¬ K s 1 0 = -1) (hx : ¬ K s 1 0 = so) (hd : 4 ≤ d) : Ex d 209 [.ref 92, .int (nI s), .int so, .int at0, .int (nI nn)] (N, H3 g P (mm Y S)) (some (.int (-13))) (N, H3 g P (mm Y S)) := by
  refine Ex.of ?_
  show Wp _ 209 0 [.ref 92, .int (nI s), .int so, .int at0, .int (nI nn), .null, .null, .null, .null] [] _ _
  refine W_iload_n d_209_0 rfl ?_
  refine W_iconst d_209_1 (v := 0) (by decide) ?_
  refine W_iconst d_209_2 (v := 3) (by decide) ?_
  refine W_callS d_209_3 o_209 k_7_96 (by omega) x_135 rfl (Nat.le_of_ble_eq_true rfl) ?_
  refine W_if_eq (tgt := 29) d_209_6 (by decide) (fun h6 => absurd h6 (fun q => bI_f q ⟨nI_pos' (by omega), nI_le (a := s) (b := 3) (by omega) (by decide)⟩)) (fun h6 => ?_)
  refine W_iload_n d_209_9 rfl ?_
  refine W_iconst d_209_10 (v := 0) (by decide) ?_
  refine W_iconst d_209_11 (v := 2) (by decide) ?_
  refine W_callS d_209_12 o_209 k_7_96 (by omega) x_135 rfl (Nat.le_of_ble_eq_true rfl) ?_
  refine W_if_eq (tgt := 29) d_209_15 (by decide) (fun h15 => absurd h15 (fun q => bI_f q hso)) (fun h15 => ?_)
  refine W_iload d_209_18 rfl ?_
  refine W_iconst d_209_20 (v := 0) (by decide) ?_
  refine W_bipush d_209_21 (v := 12) (by decide) ?_
  refine W_callS d_209_23 o_209 k_7_96 (by omega) x_135 rfl (Nat.le_of_ble_eq_true rfl) ?_
  refine W_if_ne (tgt := 32) d_209_26 (by decide) (fun h26 => ?_) (fun h26 => absurd h26 (fun q => bI_f q ⟨nI_pos' (by omega), nI_le (a := nn) (b := 12) hnn (by decide)⟩))
  refine W_aload_n d_209_32 rfl (by decide) ?_
  refine W_getf d_209_33 o_209 k_7_47 rfl rfl ?_
  refine W_iload_n d_209_36 rfl ?_
  refine W_mld (a := 11) d_209_37 rfl (by decide) (n := 4) rfl (vp_in_nI (by omega) (by decide)) ((congrArg (Y 11) (nI_clamp (by omega))).trans (hK s hs).1) ?_
  refine W_iconst d_209_38 (v := (-1)) (by decide) ?_
  refine W_icmp_ne (tgt := 45) d_209_39 (by decide) (fun h39 => ?_) (fun h39 => absurd h39 hm)
  refine W_aload_n d_209_45 rfl (by decide) ?_
  refine W_getf d_209_46 o_209 k_7_47 rfl rfl ?_
  refine W_iload_n d_209_49 rfl ?_
  refine W_mld (a := 11) d_209_50 rfl (by decide) (n := 4) rfl (vp_in_nI (by omega) (by decide)) ((congrArg (Y 11) (nI_clamp (by omega))).trans (hK s hs).1) ?_
  refine W_iload_n d_209_51 rfl ?_
  refine W_icmp_eq (tgt := 58) d_209_52 (by decide) (fun h52 => absurd h52 hx) (fun h52 => ?_)
  refine W_bipush d_209_55 (v := (-13)) (by decide) ?_
  refine W_iret d_209_57 rt_209 rfl ?_
  exact ⟨rfl, rfl⟩
theorem q_209 {d : Nat} {g : mG} {N : Nat} {P : Nat → mC} {Y : tR} {S : Nat → Int32} {A : Nat → tR} {r : Nat} {Lr : tR} {z : Nat → Nat} {n p t : Nat} (hX : MS Y S (A r) Lr z n p t) {K : Nat → tR} (hK : SHR K Y) {s : Nat} (hs : s < 4) {so : Int32} (hso : 0 ≤ so ∧ so ≤ 2) {nn : Nat} (hnn : nn ≤ 12) (hm : ¬ K s 1 0 = -1) (hx : K s 1 0 = so) {sz : Nat} (hsz : K s 1 1 = nI sz) (h40 : sz ≤ 40) {a : Nat} (ha : a < 2 ^ 31) (hd : 9 ≤ d) : Wp d 209 0 (ment 209 [.ref 92, .int (nI s), .int so, .int (nI a), .int (nI nn)]) [] (N, H3 g P (mm Y S)) (fun v M' => v = some (.int (obR K s r nn (nI a) (A, n) 0).1) ∧ ∃ Y' S', M' = (N, H3 g P (mm Y' S')) ∧ MS Y' S' ((obR K s r nn (nI a) (A, n) 0).2.1 r) Lr z (obR K s r nn (nI a) (A, n) 0).2.2 p t ∧ FRm Y S Y' S') := by
  show Wp _ 209 0 [.ref 92, .int (nI s), .int so, .int (nI a), .int (nI nn), .null, .null, .null, .null] [] _ _
  refine W_iload_n d_209_0 rfl ?_
  refine W_iconst d_209_1 (v := 0) (by decide) ?_
  refine W_iconst d_209_2 (v := 3) (by decide) ?_
  refine W_callS d_209_3 o_209 k_7_96 (by omega) x_135 rfl (Nat.le_of_ble_eq_true rfl) ?_
  refine W_if_eq (tgt := 29) d_209_6 (by decide) (fun h6 => absurd h6 (fun q => bI_f q ⟨nI_pos' (by omega), nI_le (a := s) (b := 3) (by omega) (by decide)⟩)) (fun h6 => ?_)
  refine W_iload_n d_209_9 rfl ?_
  refine W_iconst d_209_10 (v := 0) (by decide) ?_
  refine W_iconst d_209_11 (v := 2) (by decide) ?_
  refine W_callS d_209_12 o_209 k_7_96 (by omega) x_135 rfl (Nat.le_of_ble_eq_true rfl) ?_
  refine W_if_eq (tgt := 29) d_209_15 (by decide) (fun h15 => absurd h15 (fun q => bI_f q hso)) (fun h15 => ?_)
  refine W_iload d_209_18 rfl ?_
  refine W_iconst d_209_20 (v := 0) (by decide) ?_
  refine W_bipush d_209_21 (v := 12) (by decide) ?_
  refine W_callS d_209_23 o_209 k_7_96 (by omega) x_135 rfl (Nat.le_of_ble_eq_true rfl) ?_
  refine W_if_ne (tgt := 32) d_209_26 (by decide) (fun h26 => ?_) (fun h26 => absurd h26 (fun q => bI_f q ⟨nI_pos' (by omega), nI_le (a := nn) (b := 12) hnn (by decide)⟩))
  refine W_aload_n d_209_32 rfl (by decide) ?_
  refine W_getf d_209_33 o_209 k_7_47 rfl rfl ?_
  refine W_iload_n d_209_36 rfl ?_
  refine W_mld (a := 11) d_209_37 rfl (by decide) (n := 4) rfl (vp_in_nI (by omega) (by decide)) ((congrArg (Y 11) (nI_clamp (by omega))).trans (hK s hs).1) ?_
  refine W_iconst d_209_38 (v := (-1)) (by decide) ?_
  refine W_icmp_ne (tgt := 45) d_209_39 (by decide) (fun h39 => ?_) (fun h39 => absurd h39 hm)
  refine W_aload_n d_209_45 rfl (by decide) ?_
  refine W_getf d_209_46 o_209 k_7_47 rfl rfl ?_
  refine W_iload_n d_209_49 rfl ?_
  refine W_mld (a := 11) d_209_50 rfl (by decide) (n := 4) rfl (vp_in_nI (by omega) (by decide)) ((congrArg (Y 11) (nI_clamp (by omega))).trans (hK s hs).1) ?_
  refine W_iload_n d_209_51 rfl ?_
  refine W_icmp_eq (tgt := 58) d_209_52 (by decide) (fun h52 => ?_) (fun h52 => absurd hx h52)
  refine W_iconst d_209_58 (v := 0) (by decide) ?_
  refine W_istore d_209_59 rfl ?_
  refine W_iconst d_209_61 (v := 0) (by decide) ?_
  refine W_istore d_209_62 rfl ?_
  exact lq_209 (Y0 := Y) (S0 := S) hs hsz h40 hnn hd nn 0 Y S A n 0 _ _ (by omega) (by omega) hX hK (by omega) FRm.refl (fun Y1 S1 h1 h2 => ⟨rfl, Y1, S1, rfl, h1, h2⟩)
theorem q_209z {d : Nat} {g : mG} {N : Nat} {P : Nat → mC} {Y : tR} {S : Nat → Int32} {A : Nat → tR} {r : Nat} {Lr : tR} {z : Nat → Nat} {n p t : Nat} (hX : MS Y S (A r) Lr z n p t) {K : Nat → tR} (hK : SHR K Y) {s : Nat} (hs : s < 4) {so at0 : Int32} (hso : 0 ≤ so ∧ so ≤ 2) (hm : ¬ K s 1 0 = -1) (hx : K s 1 0 = so) {sz : Nat} (hsz : K s 1 1 = nI sz) (h40 : sz ≤ 40) (hd : 9 ≤ d) : Wp d 209 0 (ment 209 [.ref 92, .int (nI s), .int so, .int at0, .int (nI 0)]) [] (N, H3 g P (mm Y S)) (fun v M' => v = some (.int (obR K s r 0 at0 (A, n) 0).1) ∧ ∃ Y' S', M' = (N, H3 g P (mm Y' S')) ∧ MS Y' S' ((obR K s r 0 at0 (A, n) 0).2.1 r) Lr z (obR K s r 0 at0 (A, n) 0).2.2 p t ∧ FRm Y S Y' S') := by
  have hnn : 0 ≤ 12 := by decide
  show Wp _ 209 0 [.ref 92, .int (nI s), .int so, .int at0, .int (nI 0), .null, .null, .null, .null] [] _ _
  refine W_iload_n d_209_0 rfl ?_
  refine W_iconst d_209_1 (v := 0) (by decide) ?_
  refine W_iconst d_209_2 (v := 3) (by decide) ?_
  refine W_callS d_209_3 o_209 k_7_96 (by omega) x_135 rfl (Nat.le_of_ble_eq_true rfl) ?_
  refine W_if_eq (tgt := 29) d_209_6 (by decide) (fun h6 => absurd h6 (fun q => bI_f q ⟨nI_pos' (by omega), nI_le (a := s) (b := 3) (by omega) (by decide)⟩)) (fun h6 => ?_)
  refine W_iload_n d_209_9 rfl ?_
  refine W_iconst d_209_10 (v := 0) (by decide) ?_
  refine W_iconst d_209_11 (v := 2) (by decide) ?_
  refine W_callS d_209_12 o_209 k_7_96 (by omega) x_135 rfl (Nat.le_of_ble_eq_true rfl) ?_
  refine W_if_eq (tgt := 29) d_209_15 (by decide) (fun h15 => absurd h15 (fun q => bI_f q hso)) (fun h15 => ?_)
  refine W_iload d_209_18 rfl ?_
  refine W_iconst d_209_20 (v := 0) (by decide) ?_
  refine W_bipush d_209_21 (v := 12) (by decide) ?_
  refine W_callS d_209_23 o_209 k_7_96 (by omega) x_135 rfl (Nat.le_of_ble_eq_true rfl) ?_
  refine W_if_ne (tgt := 32) d_209_26 (by decide) (fun h26 => ?_) (fun h26 => absurd h26 (fun q => bI_f q ⟨nI_pos' (by omega), nI_le (a := 0) (b := 12) hnn (by decide)⟩))
  refine W_aload_n d_209_32 rfl (by decide) ?_
  refine W_getf d_209_33 o_209 k_7_47 rfl rfl ?_
  refine W_iload_n d_209_36 rfl ?_
  refine W_mld (a := 11) d_209_37 rfl (by decide) (n := 4) rfl (vp_in_nI (by omega) (by decide)) ((congrArg (Y 11) (nI_clamp (by omega))).trans (hK s hs).1) ?_
  refine W_iconst d_209_38 (v := (-1)) (by decide) ?_
  refine W_icmp_ne (tgt := 45) d_209_39 (by decide) (fun h39 => ?_) (fun h39 => absurd h39 hm)
  refine W_aload_n d_209_45 rfl (by decide) ?_
  refine W_getf d_209_46 o_209 k_7_47 rfl rfl ?_
  refine W_iload_n d_209_49 rfl ?_
  refine W_mld (a := 11) d_209_50 rfl (by decide) (n := 4) rfl (vp_in_nI (by omega) (by decide)) ((congrArg (Y 11) (nI_clamp (by omega))).trans (hK s hs).1) ?_
  refine W_iload_n d_209_51 rfl ?_
  refine W_icmp_eq (tgt := 58) d_209_52 (by decide) (fun h52 => ?_) (fun h52 => absurd hx h52)
  refine W_iconst d_209_58 (v := 0) (by decide) ?_
  refine W_istore d_209_59 rfl ?_
  refine W_iconst d_209_61 (v := 0) (by decide) ?_
  refine W_istore d_209_62 rfl ?_
  refine W_iload d_209_64 rfl ?_
  refine W_iload d_209_66 rfl ?_
  refine W_icmp_ge (tgt := 153) d_209_68 (by decide) (fun h68 => ?_) (fun h68 => absurd (nI_le (a := 0) (b := 0) (by omega) (by omega)) h68)
  refine W_iload d_209_153 rfl ?_
  refine W_iret d_209_155 rt_209 rfl ?_
  exact ⟨rfl, Y, S, rfl, hX, FRm.refl⟩
theorem q_209n {d : Nat} {g : mG} {N : Nat} {P : Nat → mC} {Y : tR} {S : Nat → Int32} {A : Nat → tR} {r : Nat} {Lr : tR} {z : Nat → Nat} {n p t : Nat} (hX : MS Y S (A r) Lr z n p t) {K : Nat → tR} (hK : SHR K Y) {s : Nat} (hs : s < 4) {so at0 : Int32} (hso : 0 ≤ so ∧ so ≤ 2) {nn : Nat} (hnn : nn ≤ 12) (hm : ¬ K s 1 0 = -1) (hx : K s 1 0 = so) {sz : Nat} (hsz : K s 1 1 = nI sz) (h40 : sz ≤ 40) (h0 : 0 < nn) (ha : at0 < 0) (hd : 9 ≤ d) : Wp d 209 0 (ment 209 [.ref 92, .int (nI s), .int so, .int at0, .int (nI nn)]) [] (N, H3 g P (mm Y S)) (fun v M' => v = some (.int (obR K s r nn at0 (A, n) 0).1) ∧ ∃ Y' S', M' = (N, H3 g P (mm Y' S')) ∧ MS Y' S' ((obR K s r nn at0 (A, n) 0).2.1 r) Lr z (obR K s r nn at0 (A, n) 0).2.2 p t ∧ FRm Y S Y' S') := by
  have hneg : obR K s r nn at0 (A, n) 0 = (-12, (A, n)) := by
    obtain ⟨k, rfl⟩ : ∃ k, nn = k + 1 := ⟨nn - 1, by omega⟩
    rw [obR, if_neg (fun q => absurd q.1 (Int32.not_le.mpr ha))]
  show Wp _ 209 0 [.ref 92, .int (nI s), .int so, .int at0, .int (nI nn), .null, .null, .null, .null] [] _ _
  refine W_iload_n d_209_0 rfl ?_
  refine W_iconst d_209_1 (v := 0) (by decide) ?_
  refine W_iconst d_209_2 (v := 3) (by decide) ?_
  refine W_callS d_209_3 o_209 k_7_96 (by omega) x_135 rfl (Nat.le_of_ble_eq_true rfl) ?_
  refine W_if_eq (tgt := 29) d_209_6 (by decide) (fun h6 => absurd h6 (fun q => bI_f q ⟨nI_pos' (by omega), nI_le (a := s) (b := 3) (by omega) (by decide)⟩)) (fun h6 => ?_)
  refine W_iload_n d_209_9 rfl ?_
  refine W_iconst d_209_10 (v := 0) (by decide) ?_
  refine W_iconst d_209_11 (v := 2) (by decide) ?_
  refine W_callS d_209_12 o_209 k_7_96 (by omega) x_135 rfl (Nat.le_of_ble_eq_true rfl) ?_
  refine W_if_eq (tgt := 29) d_209_15 (by decide) (fun h15 => absurd h15 (fun q => bI_f q hso)) (fun h15 => ?_)
  refine W_iload d_209_18 rfl ?_
  refine W_iconst d_209_20 (v := 0) (by decide) ?_
  refine W_bipush d_209_21 (v := 12) (by decide) ?_
  refine W_callS d_209_23 o_209 k_7_96 (by omega) x_135 rfl (Nat.le_of_ble_eq_true rfl) ?_
  refine W_if_ne (tgt := 32) d_209_26 (by decide) (fun h26 => ?_) (fun h26 => absurd h26 (fun q => bI_f q ⟨nI_pos' (by omega), nI_le (a := nn) (b := 12) hnn (by decide)⟩))
  refine W_aload_n d_209_32 rfl (by decide) ?_
  refine W_getf d_209_33 o_209 k_7_47 rfl rfl ?_
  refine W_iload_n d_209_36 rfl ?_
  refine W_mld (a := 11) d_209_37 rfl (by decide) (n := 4) rfl (vp_in_nI (by omega) (by decide)) ((congrArg (Y 11) (nI_clamp (by omega))).trans (hK s hs).1) ?_
  refine W_iconst d_209_38 (v := (-1)) (by decide) ?_
  refine W_icmp_ne (tgt := 45) d_209_39 (by decide) (fun h39 => ?_) (fun h39 => absurd h39 hm)
  refine W_aload_n d_209_45 rfl (by decide) ?_
  refine W_getf d_209_46 o_209 k_7_47 rfl rfl ?_
  refine W_iload_n d_209_49 rfl ?_
  refine W_mld (a := 11) d_209_50 rfl (by decide) (n := 4) rfl (vp_in_nI (by omega) (by decide)) ((congrArg (Y 11) (nI_clamp (by omega))).trans (hK s hs).1) ?_
  refine W_iload_n d_209_51 rfl ?_
  refine W_icmp_eq (tgt := 58) d_209_52 (by decide) (fun h52 => ?_) (fun h52 => absurd hx h52)
  refine W_iconst d_209_58 (v := 0) (by decide) ?_
  refine W_istore d_209_59 rfl ?_
  refine W_iconst d_209_61 (v := 0) (by decide) ?_
  refine W_istore d_209_62 rfl ?_
  refine W_iload d_209_64 rfl ?_
  refine W_iload d_209_66 rfl ?_
  refine W_icmp_ge (tgt := 153) d_209_68 (by decide) (fun h68 => absurd h68 (nI_ge (a := 0) (b := nn) h0 (by omega))) (fun h68 => ?_)
  refine W_iload_n d_209_71 rfl ?_
  refine W_iconst d_209_72 (v := 2) (by decide) ?_
  refine W_iload d_209_73 rfl ?_
  refine W_imul d_209_75 ?_
  refine W_iadd d_209_76 ?_
  refine W_istore d_209_77 rfl ?_
  refine W_iload_n d_209_79 rfl ?_
  refine W_if_lt (tgt := 102) d_209_80 (by decide) (fun h80 => ?_) (fun h80 => absurd ha h80)
  refine W_bipush d_209_102 (v := (-12)) (by decide) ?_
  refine W_iret d_209_104 rt_209 rfl ?_
  rw [show obR K s r nn at0 (A, n) 0 = (-12, (A, n)) from hneg]
  exact ⟨rfl, Y, S, rfl, hX, FRm.refl⟩
theorem q_178f {d : Nat} {g : mG} {N : Nat} {P : Nat → mC} {Y : tR} {S : Nat → Int32} (hh : S 8 = 999) (hd : 9 ≤ d) : Ex d 178 [.ref 92] (N, H3 g P (mm Y S)) (some (.int (-4))) (N, H3 g P (mm Y S)) := by
  refine Ex.of ?_
  show Wp _ 178 0 [.ref 92] [] _ _
  refine W_aload_n d_178_0 rfl (by decide) ?_
  refine W_getf d_178_1 o_178 k_7_103 rfl rfl ?_
  refine W_sipush d_178_4 (v := 999) (by decide) ?_
  refine W_icmp_ne (tgt := 13) d_178_7 (by decide) (fun h7 => absurd hh h7) (fun h7 => ?_)
  refine W_bipush d_178_10 (v := (-4)) (by decide) ?_
  refine W_iret d_178_12 rt_178 rfl ?_
  exact ⟨rfl, rfl⟩
theorem beg_mx {n p t : Nat} {Y Y1 : tR} {S S1 : Nat → Int32} {R Lr : tR} {z : Nat → Nat} (hX : MS Y S R Lr z n p t) (h4 : ∀ j, j < 12 → Y1 19 j = 0 ∧ Y1 20 j = 0) (h5 : S1 34 = 0) (h : FRb Y S Y1 S1) : MX Y1 S1 (zt R) Lr z n t := by
  obtain ⟨hq, hn, hn12, hp, hp6, hlw, ht, hL, hM, hB⟩ := hX
  refine ⟨?_, hn, hn12, hlw, ht, hL, ?_, hB⟩
  · refine EQ.trans ?_ hq
    intro a b u
    have hb : a ≤ 8 → b < n := fun q => by unfold us at u; omega
    rcases us_13 u with rfl | rfl | rfl | rfl | rfl | rfl | rfl | rfl | rfl | rfl | rfl | rfl | ⟨rfl, rfl | rfl | rfl | rfl | rfl | rfl⟩
    · exact congrFun (h.1 0 (by decide)) b
    · exact congrFun (h.1 1 (by decide)) b
    · exact congrFun (h.1 2 (by decide)) _
    · exact congrFun (h.1 2 (by decide)) _
    · exact congrFun (h.1 2 (by decide)) _
    · exact congrFun (h.1 2 (by decide)) _
    · exact congrFun (h.1 2 (by decide)) _
    · exact (h4 b (by have := hb (by decide); omega)).1
    · exact (h4 b (by have := hb (by decide); omega)).2
    · exact congrFun (h.1 3 (by decide)) b
    · exact congrFun (h.1 4 (by decide)) b
    · exact congrFun (h.1 5 (by decide)) b
    · exact h.2 0 (by decide)
    · exact h.2 5 (by decide)
    · exact h.2 8 (by decide)
    · exact h.2 9 (by decide)
    · exact h.2 15 (by decide)
    · exact h5
  · unfold LM at hM ⊢
    rw [h.1 8 (by decide), h.1 7 (by decide)]
    exact hM
theorem live_frm {Y Y1 Y2 : tR} {S S1 S2 : Nat → Int32} (h : FRb Y S Y1 S1) (h2 : FRh Y1 S1 Y2 S2) : FRm Y S Y2 S2 := ⟨fun i hi => (h2.1 i (by omega)).trans (h.1 i (by omega)), (h2.2 11 (by decide)).trans (h.2 11 (by decide)), (h2.2 14 (by decide)).trans (h.2 14 (by decide)), (h2.2 16 (by decide)).trans (h.2 16 (by decide))⟩
theorem q_178 {d : Nat} {g : mG} {N : Nat} {P : Nat → mC} {Y : tR} {S : Nat → Int32} {R Lr : tR} {z : Nat → Nat} {n p t : Nat} (hX : MS Y S R Lr z n p t) (hh : ¬ S 8 = 999) (hd : 9 ≤ d) : Wp d 178 0 (ment 178 [.ref 92]) [] (N, H3 g P (mm Y S)) (fun v M' => v = some (.int (sm7 (hrA (fun _ => zt R) 0 Lr z n p 0) n)) ∧ ∃ Y' S', M' = (N, H3 g P (mm Y' S')) ∧ EQ n (MA Y' S') (hrA (fun _ => zt R) 0 Lr z n p 0) ∧ FRm Y S Y' S') := by
  show Wp _ 178 0 [.ref 92] [] _ _
  refine W_aload_n d_178_0 rfl (by decide) ?_
  refine W_getf d_178_1 o_178 k_7_103 rfl rfl ?_
  refine W_sipush d_178_4 (v := 999) (by decide) ?_
  refine W_icmp_ne (tgt := 13) d_178_7 (by decide) (fun h7 => ?_) (fun h7 => absurd h7 hh)
  refine W_aload_n d_178_13 rfl (by decide) ?_
  refine W_callVQ d_178_14 o_178 (Or.inl k_7_217) (by omega) x_174 rfl (mrecv_of rfl o_174.symm) rfl (Nat.le_of_ble_eq_true rfl) ?_
  rintro _ _ ⟨rfl, Y1, S1, rfl, h4, h5, h6⟩
  refine W_aload_n d_178_17 rfl (by decide) ?_
  refine W_callVQ d_178_18 o_178 (Or.inl k_7_220) (by omega) (x_173 (A := fun _ => zt R) (r := 0) (beg_mx hX h4 h5 h6) (p := p) hX.2.2.2.1 hX.2.2.2.2.1 (by omega)) rfl (mrecv_of rfl o_173.symm) rfl (Nat.le_of_ble_eq_true rfl) ?_
  rintro _ _ ⟨rfl, Y2, S2, rfl, hF2, hq2⟩
  refine W_aload_n d_178_21 rfl (by decide) ?_
  refine W_callV d_178_22 o_178 (Or.inl k_7_223) (by omega) (x_175 (X := (hrA (fun _ => zt R) 0 Lr z n p 0)) (n := n) (by rw [hF2.2 0 (by decide), h6.2 0 (by decide)]; exact hX.n0) hX.2.2.1 (fun j hj => hq2.lo (a := 7) (b := j) (by decide) hj)) rfl (mrecv_of rfl o_175.symm) rfl (Nat.le_of_ble_eq_true rfl) ?_
  refine W_iret d_178_25 rt_178 rfl ?_
  exact ⟨rfl, Y2, S2, rfl, hq2, live_frm h6 hF2⟩
theorem q_159a {d : Nat} {g : mG} {N : Nat} {P : Nat → mC} {Y : tR} {S : Nat → Int32} {R Lr : tR} {z : Nat → Nat} {n p t : Nat} (hX : MS Y S R Lr z n p t) {v w u : Int32} (hb : ¬ ((0 ≤ v ∧ v ≤ 2) ∧ (0 ≤ w ∧ w < nI n) ∧ (0 ≤ u ∧ u ≤ 999))) (hd : 9 ≤ d) : Ex d 159 [.ref 92, .int v, .int w, .int u] (N, H3 g P (mm Y S)) (some (.int (-2))) (N, H3 g P (mm Y S)) := by
  refine Ex.of ?_
  show Wp _ 159 0 [.ref 92, .int v, .int w, .int u] [] _ _
  refine W_iload_n d_159_0 rfl ?_
  refine W_iconst d_159_1 (v := 0) (by decide) ?_
  refine W_iconst d_159_2 (v := 2) (by decide) ?_
  refine W_callS d_159_3 o_159 k_7_96 (by omega) x_135 rfl (Nat.le_of_ble_eq_true rfl) ?_
  refine W_if_eq (tgt := 38) d_159_6 (by decide) (fun h6 => ?_) (fun h6 => ?_)
  · refine W_bipush d_159_38 (v := (-2)) (by decide) ?_
    refine W_iret d_159_40 rt_159 rfl ?_
    exact ⟨rfl, rfl⟩
  · refine W_aload_n d_159_9 rfl (by decide) ?_
    refine W_iload_n d_159_10 rfl ?_
    refine W_callV d_159_11 o_159 (Or.inl k_7_182) (by omega) (x_137 hX.n0 hX.2.2.1 (by omega)) rfl (mrecv_of rfl o_137.symm) rfl (Nat.le_of_ble_eq_true rfl) ?_
    refine W_if_eq (tgt := 38) d_159_14 (by decide) (fun h14 => ?_) (fun h14 => ?_)
    · refine W_bipush d_159_38 (v := (-2)) (by decide) ?_
      refine W_iret d_159_40 rt_159 rfl ?_
      exact ⟨rfl, rfl⟩
    · refine W_iload_n d_159_17 rfl ?_
      refine W_iconst d_159_18 (v := 0) (by decide) ?_
      refine W_sipush d_159_19 (v := 999) (by decide) ?_
      refine W_callS d_159_22 o_159 k_7_96 (by omega) x_135 rfl (Nat.le_of_ble_eq_true rfl) ?_
      refine W_if_eq (tgt := 38) d_159_25 (by decide) (fun h25 => ?_) (fun h25 => ?_)
      · refine W_bipush d_159_38 (v := (-2)) (by decide) ?_
        refine W_iret d_159_40 rt_159 rfl ?_
        exact ⟨rfl, rfl⟩
      · exact (hb ⟨bI_t h6, bI_t h14, bI_t h25⟩).elim
theorem q_159 {d : Nat} {g : mG} {N : Nat} {P : Nat → mC} {Y : tR} {S : Nat → Int32} {R Lr : tR} {z : Nat → Nat} {n p t : Nat} (hX : MS Y S R Lr z n p t) {j k : Nat} (hj : j < n) (hk : k < 3) {u : Int32} (hu : 0 ≤ u ∧ u ≤ 999) (hd : 9 ≤ d) : Wp d 159 0 (ment 159 [.ref 92, .int (nI k), .int (nI j), .int u]) [] (N, H3 g P (mm Y S)) (fun v M' => v = some (.int (sq R Lr z k (nI j) (R 1 j) (R 3 j) u)) ∧ ∃ Y' S', M' = (N, H3 g P (mm Y' S')) ∧ FRq Y S Y' S') := by
  have hn12 := hX.2.2.1
  show Wp _ 159 0 [.ref 92, .int (nI k), .int (nI j), .int u] [] _ _
  refine W_iload_n d_159_0 rfl ?_
  refine W_iconst d_159_1 (v := 0) (by decide) ?_
  refine W_iconst d_159_2 (v := 2) (by decide) ?_
  refine W_callS d_159_3 o_159 k_7_96 (by omega) x_135 rfl (Nat.le_of_ble_eq_true rfl) ?_
  refine W_if_eq (tgt := 38) d_159_6 (by decide) (fun h6 => absurd h6 (fun q => bI_f q ⟨nI_pos' (by omega), nI_le (a := k) (b := 2) (by omega) (by decide)⟩)) (fun h6 => ?_)
  refine W_aload_n d_159_9 rfl (by decide) ?_
  refine W_iload_n d_159_10 rfl ?_
  refine W_callV d_159_11 o_159 (Or.inl k_7_182) (by omega) (x_137 hX.n0 hX.2.2.1 (by omega)) rfl (mrecv_of rfl o_137.symm) rfl (Nat.le_of_ble_eq_true rfl) ?_
  refine W_if_eq (tgt := 38) d_159_14 (by decide) (fun h14 => absurd h14 (fun q => bI_f q ⟨nI_pos' (by omega), nI_lt hj (by omega)⟩)) (fun h14 => ?_)
  refine W_iload_n d_159_17 rfl ?_
  refine W_iconst d_159_18 (v := 0) (by decide) ?_
  refine W_sipush d_159_19 (v := 999) (by decide) ?_
  refine W_callS d_159_22 o_159 k_7_96 (by omega) x_135 rfl (Nat.le_of_ble_eq_true rfl) ?_
  refine W_if_eq (tgt := 38) d_159_25 (by decide) (fun h25 => absurd h25 (fun q => bI_f q hu)) (fun h25 => ?_)
  refine W_aload_n d_159_28 rfl (by decide) ?_
  refine W_iload_n d_159_29 rfl ?_
  refine W_iload_n d_159_30 rfl ?_
  refine W_iload_n d_159_31 rfl ?_
  refine W_callVQ d_159_32 o_159 (Or.inl k_7_185) (by omega) (x_158 (show MX Y S (MA Y S) Lr z n t from ⟨EQ.refl, hX.n0, hX.2.2.1, (hX.1.tw (b := 4) (by decide)).trans hX.2.2.2.2.2.1, hX.2.2.2.2.2.2.1, hX.2.2.2.2.2.2.2.1, hX.2.2.2.2.2.2.2.2.1, fun i hi => (hX.1.lo (a := 4) (b := i) (by decide) hi) ▸ hX.2.2.2.2.2.2.2.2.2 i hi⟩) hk hj (by omega)) rfl (mrecv_of rfl o_158.symm) rfl (Nat.le_of_ble_eq_true rfl) ?_
  rintro _ _ ⟨rfl, Y1, rfl, hY1⟩
  refine W_goto (tgt := 40) d_159_35 (by decide) ?_
  refine W_iret d_159_40 rt_159 rfl ?_
  refine ⟨congrArg (fun z => some (Value.int z)) ?_, Y1, S, rfl, FRg.c ⟨fun i hi => hY1 i (by omega), fun _ _ => rfl, fun k _ => congrFun (hY1 2 (by decide)) k, fun k _ => congrFun (hY1 3 (by decide)) k⟩⟩
  unfold sq
  rw [hX.1.tw (b := 2) (by decide), hX.1.tw (b := 1) (by decide), hX.1.lo (a := 1) (b := j) (by decide) hj, hX.1.lo (a := 3) (b := j) (by decide) hj]
