/-! THE MODEL: goes, winter, toldRun (wip/whole/gen31.py) -/
theorem hrA_row (A : Nat → tR) (r : Nat) (Lr : tR) (z : Nat → Nat) (n m r' a b : Nat) (h : ¬ (a = 2 ∨ a = 3 ∨ a = 7 ∨ a = 8 ∨ a = 9 ∨ a = 12)) : hrA A r Lr z n m r' a b = A r' a b := by
  show u3 _ _ _ _ _ _ _ _ = _
  rw [u3_ap, if_neg (by omega), blA_ap _ _ _ _ _ (by omega), osA_ap _ _ _ _ _ _ _ (by omega), psA_ap _ _ _ _ _ _ _ (by omega), snA_ap _ _ _ _ _ _ _ (by omega)]
theorem hrs_row (A : Nat → tR) (r : Nat) (Lr : tR) (z : Nat → Nat) (n m r' a b : Nat) (h : ¬ (a = 2 ∨ a = 3 ∨ a = 7 ∨ a = 8 ∨ a = 9 ∨ a = 12)) : ∀ i, hrs A r Lr z n m i r' a b = A r' a b
  | 0 => rfl
  | i + 1 => (hrA_row _ _ _ _ _ _ _ _ _ h).trans (hrs_row A r Lr z n m r' a b h i)
theorem sbA_row (A : Nat → tR) (r : Nat) (l : Int64) (m : Int32) (r' a b : Nat) (h : ¬ a = 9) : ∀ i, sbA A r l m i r' a b = A r' a b
  | 0 => rfl
  | i + 1 => by rw [sbA, u3_ap, if_neg (by omega), sbA_row A r l m r' a b h i]
theorem wns_row (A : Nat → tR) (r : Nat) (l : Int64) (Lr : tR) (z : Nat → Nat) (n p : Nat) (most : Int32) (r' a b : Nat) (h : ¬ (a = 2 ∨ a = 3 ∨ a = 7 ∨ a = 8 ∨ a = 9 ∨ a = 12)) : ∀ i, (wns A r l Lr z n p most i).1 r' a b = A r' a b
  | 0 => rfl
  | i + 1 => (hrA_row _ _ _ _ _ _ _ _ _ h).trans ((sbA_row _ _ _ _ _ _ _ (by omega) _).trans (wns_row A r l Lr z n p most r' a b h i))
/-- the model at rest is road R (but for the tallies) -/
def MS (Y : tR) (S : Nat → Int32) (R Lr : tR) (z : Nat → Nat) (n p t : Nat) : Prop := ES n (MA Y S) R ∧ R 12 0 = nI n ∧ n ≤ 12 ∧ R 12 1 = nI p ∧ p ≤ 6 ∧ R 12 4 = nI t ∧ t < 6 ∧ Lw Lr z ∧ LM Y t Lr z ∧ ∀ j, j < n → 0 ≤ R 4 j
def GO (n : Nat) (X Y : tR) (S : Nat → Int32) : Prop := (∀ j, j < n → Y 19 j = X 7 j ∧ Y 20 j = X 8 j ∧ Y 22 j = X 2 j) ∧ S 34 = X 12 5 ∧ S 40 = hh X n
/-- only what a thought needs changed -/
def FRg (Y : tR) (S : Nat → Int32) (Y' : tR) (S' : Nat → Int32) : Prop := (∀ i, ¬ (i = 2 ∨ i = 3 ∨ i = 17 ∨ i = 18 ∨ i = 19 ∨ i = 20 ∨ i = 21 ∨ i = 22) → Y' i = Y i) ∧ (∀ j, ¬ (j = 34 ∨ j = 38 ∨ j = 40) → S' j = S j) ∧ (∀ j, j < 60 → Y' 2 j = Y 2 j) ∧ (∀ j, j < 6 → Y' 3 j = Y 3 j)
theorem FRg.refl {Y : tR} {S : Nat → Int32} : FRg Y S Y S := ⟨fun _ _ => rfl, fun _ _ => rfl, fun _ _ => rfl, fun _ _ => rfl⟩
theorem FRg.trans {Y Y1 Y2 : tR} {S S1 S2 : Nat → Int32} (h : FRg Y S Y1 S1) (k : FRg Y1 S1 Y2 S2) : FRg Y S Y2 S2 := ⟨fun i hi => (k.1 i hi).trans (h.1 i hi), fun j hj => (k.2.1 j hj).trans (h.2.1 j hj), fun j hj => (k.2.2.1 j hj).trans (h.2.2.1 j hj), fun j hj => (k.2.2.2 j hj).trans (h.2.2.2 j hj)⟩
theorem FRg.lm {Y Y1 : tR} {S S1 : Nat → Int32} (h : FRg Y S Y1 S1) {t : Nat} {Lr : tR} {z : Nat → Nat} (hM : LM Y t Lr z) : LM Y1 t Lr z := by
  unfold LM at hM ⊢
  rw [h.1 8 (by decide), h.1 7 (by decide)]
  exact hM
theorem FRg.es {Y Y1 : tR} {S S1 : Nat → Int32} (h : FRg Y S Y1 S1) {n : Nat} (hn12 : n ≤ 12) : ES n (MA Y1 S1) (MA Y S) := by
  refine ES.of (fun a b ha hb => ?_) (fun a b ha ha2 hb => ?_) (fun b hb => ?_)
  · have : a = 0 ∨ a = 1 ∨ a = 2 ∨ a = 3 ∨ a = 4 ∨ a = 5 ∨ a = 6 := by omega
    rcases this with rfl | rfl | rfl | rfl | rfl | rfl | rfl
    · exact congrFun (h.1 0 (by decide)) b
    · exact congrFun (h.1 1 (by decide)) b
    · exact h.2.2.1 (5 * b + (2 - 2)) (by omega)
    · exact h.2.2.1 (5 * b + (3 - 2)) (by omega)
    · exact h.2.2.1 (5 * b + (4 - 2)) (by omega)
    · exact h.2.2.1 (5 * b + (5 - 2)) (by omega)
    · exact h.2.2.1 (5 * b + (6 - 2)) (by omega)
  · have : a = 9 ∨ a = 10 ∨ a = 11 := by omega
    rcases this with rfl | rfl | rfl
    · exact h.2.2.2 b hb
    · exact congrFun (h.1 4 (by decide)) b
    · exact congrFun (h.1 5 (by decide)) b
  · have : b = 0 ∨ b = 1 ∨ b = 2 ∨ b = 3 ∨ b = 4 := by omega
    rcases this with rfl | rfl | rfl | rfl | rfl
    · exact h.2.1 0 (by decide)
    · exact h.2.1 5 (by decide)
    · exact h.2.1 8 (by decide)
    · exact h.2.1 9 (by decide)
    · exact h.2.1 15 (by decide)
theorem MS.fr {Y Y1 : tR} {S S1 : Nat → Int32} {R Lr : tR} {z : Nat → Nat} {n p t : Nat} (hX : MS Y S R Lr z n p t) (h : FRg Y S Y1 S1) : MS Y1 S1 R Lr z n p t := by
  obtain ⟨hq, hn, hn12, hp, hp6, hlw, ht, hL, hM, hB⟩ := hX
  exact ⟨(h.es hn12).trans hq, hn, hn12, hp, hp6, hlw, ht, hL, h.lm hM, hB⟩
theorem MS.n0 {Y : tR} {S : Nat → Int32} {R Lr : tR} {z : Nat → Nat} {n p t : Nat} (hX : MS Y S R Lr z n p t) : S 0 = nI n := (hX.1.tw (b := 0) (by decide)).trans hX.2.1
theorem MS.p0 {Y : tR} {S : Nat → Int32} {R Lr : tR} {z : Nat → Nat} {n p t : Nat} (hX : MS Y S R Lr z n p t) : S 5 = nI p := (hX.1.tw (b := 1) (by decide)).trans hX.2.2.2.1
theorem FRk.mx {Y Y1 : tR} {S S1 : Nat → Int32} {R Lr : tR} {z : Nat → Nat} {n p t : Nat} (hX : MS Y S R Lr z n p t) (h : FRk Y S Y1 S1) : MX Y1 S1 (zt R) Lr z n t := by
  obtain ⟨hq, hn, hn12, hp, hp6, hlw, ht, hL, hM, hB⟩ := hX
  refine ⟨?_, hn, hn12, hlw, ht, hL, ?_, hB⟩
  · refine EQ.trans ?_ hq
    intro a b u
    have hb : a ≤ 8 → b < n := fun q => by unfold us at u; omega
    rcases us_13 u with rfl | rfl | rfl | rfl | rfl | rfl | rfl | rfl | rfl | rfl | rfl | rfl | ⟨rfl, rfl | rfl | rfl | rfl | rfl | rfl⟩
    · exact congrFun (h.1 0 (by decide)) b
    · exact congrFun (h.1 1 (by decide)) b
    · exact congrFun (h.1 2 (by decide)) _
    · exact congrFun (h.1 2 (by decide)) _
    · exact congrFun (h.1 2 (by decide)) _
    · exact congrFun (h.1 2 (by decide)) _
    · exact congrFun (h.1 2 (by decide)) _
    · exact (h.2.2.2.2.2.1 b (by have := hb (by decide); omega)).1
    · exact (h.2.2.2.2.2.1 b (by have := hb (by decide); omega)).2
    · exact congrFun (h.1 3 (by decide)) b
    · exact congrFun (h.1 4 (by decide)) b
    · exact congrFun (h.1 5 (by decide)) b
    · exact h.2.1 0 (by decide)
    · exact h.2.1 5 (by decide)
    · exact h.2.1 8 (by decide)
    · exact h.2.1 9 (by decide)
    · exact h.2.1 15 (by decide)
    · exact h.2.2.2.2.2.2
  · unfold LM at hM ⊢
    rw [h.1 8 (by decide), h.1 7 (by decide)]
    exact hM
/-- a thought laid back -/
theorem laid {Y Y1 Y2 Y3 : tR} {S S1 S2 S3 : Nat → Int32} {X : tR} {n : Nat} (hn12 : n ≤ 12) (h1 : FRk Y S Y1 S1) (h2 : FRh Y1 S1 Y2 S2) (hq : EQ n (MA Y2 S2) X) (h3 : FRl n Y2 S2 Y3 S3) : FRg Y S Y3 S3 ∧ GO n X Y3 S3 := by
  obtain ⟨a1, a2, a3, a4, a5, a6, a7⟩ := h1
  obtain ⟨b1, b2⟩ := h2
  obtain ⟨c1, c2, c3, c4, c5, c6, c7⟩ := h3
  have e21 : Y2 21 = Y1 21 := b1 21 (by decide)
  refine ⟨⟨fun i hi => (c1 i (by omega)).trans ((b1 i (by omega)).trans (a1 i (by omega))), fun j hj => ?_, fun j hj => ?_, fun j hj => ?_⟩, fun j hj => ⟨?_, ?_, ?_⟩, ?_, ?_⟩
  · by_cases e : j = 8
    · subst e
      exact c5.trans ((b2 38 (by decide)).trans a5)
    · exact (c2 j (by omega)).trans ((b2 j (by omega)).trans (a2 j (by omega)))
  · rw [c3 j hj, e21, a3 j hj]
  · rw [c4 j hj, e21, a4 j hj]
  · exact (congrFun (c1 19 (by decide)) j).trans (hq.lo (a := 7) (b := j) (by decide) hj)
  · exact (congrFun (c1 20 (by decide)) j).trans (hq.lo (a := 8) (b := j) (by decide) hj)
  · exact (c6 j hj).trans (hq.lo (a := 2) (b := j) (by decide) hj)
  · exact (c2 34 (by decide)).trans (hq.hi (a := 12) (b := 5) (by decide) (by decide) (by decide))
  · exact c7.trans hq.hh
theorem lp_181 {d : Nat} {g : mG} {N : Nat} {P : Nat → mC} {Y0 : tR} {S0 : Nat → Int32} {R Lr : tR} {z : Nat → Nat} {n p t m : Nat} (hX : MX Y0 S0 (zt R) Lr z n t) (hp : R 12 1 = nI p) (hp6 : p ≤ 6) (hm : m < 2 ^ 31) (hd : 7 ≤ d) {Q : Option Value → mM → Prop} (kk : ∀ (Y2 : tR) (S2 : Nat → Int32), (EQ n (MA Y2 S2) (hrs (fun _ => zt R) 0 Lr z n p m 0) ∧ FRh Y0 S0 Y2 S2) → Wp d 181 21 [.ref 92, .int (nI m), .int (nI m)] [] (N, H3 g P (mm Y2 S2)) Q) : ∀ (k i : Nat) (Y : tR) (S : Nat → Int32), i + k = m → (EQ n (MA Y S) (hrs (fun _ => zt R) 0 Lr z n p i 0) ∧ FRh Y0 S0 Y S) → Wp d 181 6 [.ref 92, .int (nI m), .int (nI i)] [] (N, H3 g P (mm Y S)) Q := by
  intro k
  induction k with
  | zero =>
    intro i Y S hi hI
    have ei : i = m := by omega
    refine W_iload_n d_181_6 rfl ?_
    refine W_iload_n d_181_7 rfl ?_
    refine W_icmp_ge (tgt := 21) d_181_8 (by decide) (fun h8 => ?_) (fun h8 => absurd (nI_le (a := m) (b := i) (by omega) (by omega)) h8)
    rw [ei] at hI ⊢
    exact kk _ _ hI
  | succ k ih =>
    intro i Y S hi hI
    refine W_iload_n d_181_6 rfl ?_
    refine W_iload_n d_181_7 rfl ?_
    refine W_icmp_ge (tgt := 21) d_181_8 (by decide) (fun h8 => absurd h8 (nI_ge (a := i) (b := m) (by omega) (by omega))) (fun h8 => ?_)
    refine W_aload_n d_181_11 rfl (by decide) ?_
    refine W_callVQ d_181_12 o_181 (Or.inl k_7_220) (by omega) (x_173 (A := hrs (fun _ => zt R) 0 Lr z n p i) (r := 0) (hX.fr hI.2 hI.1 (hrs_ap _ _ _ _ _ _ _ _ (by omega) _) (hrs_ap _ _ _ _ _ _ _ _ (by omega) _) (fun j _ => hrs_row _ _ _ _ _ _ _ _ _ (by omega) _)) (p := p) ((hrs_ap _ _ _ _ _ _ _ _ (by omega) _).trans hp) hp6 (by omega)) rfl (mrecv_of rfl o_173.symm) rfl (Nat.le_of_ble_eq_true rfl) ?_
    rintro _ _ ⟨rfl, Y1, S1, rfl, hF1, hq1⟩
    refine W_iinc (v := 1) d_181_15 rfl (by decide) rfl ?_
    rw [show ((nI i + 1 : Int32)) = nI (i + 1) from nI_add i 1]
    refine W_goto (tgt := 6) d_181_18 (by decide) ?_
    exact ih (i + 1) _ _ (by omega) ⟨hq1, hI.2.trans hF1⟩
theorem x_181 {d : Nat} {g : mG} {N : Nat} {P : Nat → mC} {Y : tR} {S : Nat → Int32} {R Lr : tR} {z : Nat → Nat} {n p t : Nat} (hX : MS Y S R Lr z n p t) {m : Nat} (hm : m < 2 ^ 31) (hd : 7 ≤ d) : Wp d 181 0 (ment 181 [.ref 92, .int (nI m)]) [] (N, H3 g P (mm Y S)) (fun v M' => v = none ∧ ∃ Y' S', M' = (N, H3 g P (mm Y' S')) ∧ FRg Y S Y' S' ∧ GO n (gon R Lr z n p m) Y' S') := by
  show Wp _ 181 0 [.ref 92, .int (nI m), .null] [] _ _
  refine W_aload_n d_181_0 rfl (by decide) ?_
  refine W_callVQ d_181_1 o_181 (Or.inl k_7_232) (by omega) (x_179 (by omega)) rfl (mrecv_of rfl o_179.symm) rfl (Nat.le_of_ble_eq_true rfl) ?_
  rintro _ _ ⟨rfl, Y1, S1, rfl, h1⟩
  refine W_iconst d_181_4 (v := 0) (by decide) ?_
  refine W_istore_n d_181_5 rfl ?_
  refine lp_181 (Y0 := Y1) (S0 := S1) (h1.mx hX) hX.2.2.2.1 hX.2.2.2.2.1 hm hd (fun Y2 S2 h2 => ?_) m 0 _ _ (by omega) ⟨(h1.mx hX).1, FRh.refl⟩
  refine W_aload_n d_181_21 rfl (by decide) ?_
  refine W_callVQ d_181_22 o_181 (Or.inl k_7_235) (by omega) (x_180 (n := n) (by rw [h2.2.2 0 (by decide), h1.2.1 0 (by decide), hX.n0]) hX.2.2.1) rfl (mrecv_of rfl o_180.symm) rfl (Nat.le_of_ble_eq_true rfl) ?_
  rintro _ _ ⟨rfl, Y3, S3, rfl, h3⟩
  refine W_ret d_181_25 rt_181 ?_
  exact ⟨rfl, _, _, rfl, laid hX.2.2.1 h1 h2.2 h2.1 h3⟩
theorem lp_200s {d : Nat} {g : mG} {N : Nat} {P : Nat → mC} {Y0 : tR} {S0 : Nat → Int32} {A : Nat → tR} {n i m : Nat} {sd most : Int32} {l : Int64} (hmo : ¬ (most + 1).toInt64 = 0) (hd : 1 ≤ d) {Q : Option Value → mM → Prop} (kk : ∀ Y2, EQ n (MA Y2 S0) (sbA A 0 l most 6 0) → FRh Y0 S0 Y2 S0 → Wp d 200 73 [.ref 92, .int sd, .int (nI m), .int most, .long (lni l 6), .null, .int (nI i), .int (nI 6)] [] (N, H3 g P (mm Y2 S0)) Q) : ∀ (k j : Nat) (Y : tR), j + k = 6 → EQ n (MA Y S0) (sbA A 0 l most j 0) → FRh Y0 S0 Y S0 → Wp d 200 22 [.ref 92, .int sd, .int (nI m), .int most, .long (lni l j), .null, .int (nI i), .int (nI j)] [] (N, H3 g P (mm Y S0)) Q := by
  intro k
  induction k with
  | zero =>
    intro j Y hj hq hF
    have ej : j = 6 := by omega
    refine W_iload d_200_22 rfl ?_
    refine W_bipush d_200_24 (v := 6) (by decide) ?_
    refine W_icmp_ge (tgt := 73) d_200_26 (by decide) (fun h26 => ?_) (fun h26 => absurd (nI_le (a := 6) (b := j) (by omega) (by omega)) h26)
    rw [ej] at hq ⊢
    exact kk _ hq hF
  | succ k ih =>
    intro j Y hj hq hF
    refine W_iload d_200_22 rfl ?_
    refine W_bipush d_200_24 (v := 6) (by decide) ?_
    refine W_icmp_ge (tgt := 73) d_200_26 (by decide) (fun h26 => absurd h26 (nI_ge (a := j) (b := 6) (by omega) (by omega))) (fun h26 => ?_)
    refine W_lload d_200_29 rfl ?_
    refine W_ldc2 d_200_31 o_200 k_7_270 (v := 48271) (by decide) ?_
    refine W_lmul d_200_34 ?_
    refine W_ldc2 d_200_35 o_200 k_7_272 (v := 2147483647) (by decide) ?_
    refine W_lrem d_200_38 (by decide) ?_
    refine W_lstore d_200_39 rfl ?_
    refine W_aload_n d_200_41 rfl (by decide) ?_
    refine W_getf d_200_42 o_200 k_7_19 rfl rfl ?_
    refine W_iload d_200_45 rfl ?_
    refine W_aload_n d_200_47 rfl (by decide) ?_
    refine W_getf d_200_48 o_200 k_7_19 rfl rfl ?_
    refine W_iload d_200_51 rfl ?_
    refine W_mld (a := 3) d_200_53 rfl (by decide) (n := 6) rfl (vp_in_nI (by omega) (by decide)) (congrArg _ (nI_clamp (by omega))) ?_
    refine W_lload d_200_54 rfl ?_
    refine W_iload_n d_200_56 rfl ?_
    refine W_iconst d_200_57 (v := 1) (by decide) ?_
    refine W_iadd d_200_58 ?_
    refine W_i2l d_200_59 ?_
    refine W_lrem d_200_60 hmo ?_
    refine W_l2i d_200_61 ?_
    refine W_iadd d_200_62 ?_
    refine W_callS d_200_63 o_200 k_7_197 (by omega) x_170 rfl (Nat.le_of_ble_eq_true rfl) ?_
    refine W_mst (a := 3) d_200_66 rfl (by decide) (n := 6) rfl (vp_in_nI (by omega) (by decide)) (nI_clamp (by omega)) ?_
    refine W_iinc (v := 1) d_200_67 rfl (by decide) rfl ?_
    rw [show ((nI j + 1 : Int32)) = nI (j + 1) from nI_add j 1]
    refine W_goto (tgt := 22) d_200_70 (by decide) ?_
    refine ih (j + 1) _ (by omega) ?_ (hF.u (by decide))
    simp only [sbA]
    exact meq_3 hq (by rw [i_hd_min, show Y 3 j = _ from hq.hi (a := 9) (b := j) (by decide) (by decide) (by omega)]; rfl)
theorem lp_200 {d : Nat} {g : mG} {N : Nat} {P : Nat → mC} {Y0 : tR} {S0 : Nat → Int32} {R Lr : tR} {z : Nat → Nat} {n p t m : Nat} {sd most : Int32} {l : Int64} (hX : MX Y0 S0 (zt R) Lr z n t) (hp : R 12 1 = nI p) (hp6 : p ≤ 6) (hm : m < 2 ^ 31) (hmo : ¬ (most + 1).toInt64 = 0) (hd : 7 ≤ d) {Q : Option Value → mM → Prop} (kk : ∀ Y2 S2 c, EQ n (MA Y2 S2) ((wns (fun _ => zt R) 0 l Lr z n p most m).1 0) → FRh Y0 S0 Y2 S2 → Wp d 200 83 [.ref 92, .int sd, .int (nI m), .int most, .long (wns (fun _ => zt R) 0 l Lr z n p most m).2, .null, .int (nI m), c] [] (N, H3 g P (mm Y2 S2)) Q) : ∀ (k i : Nat) (Y : tR) (S : Nat → Int32) (c : Value), i + k = m → EQ n (MA Y S) ((wns (fun _ => zt R) 0 l Lr z n p most i).1 0) → FRh Y0 S0 Y S → Wp d 200 13 [.ref 92, .int sd, .int (nI m), .int most, .long (wns (fun _ => zt R) 0 l Lr z n p most i).2, .null, .int (nI i), c] [] (N, H3 g P (mm Y S)) Q := by
  intro k
  induction k with
  | zero =>
    intro i Y S c hi hq hF
    have ei : i = m := by omega
    refine W_iload d_200_13 rfl ?_
    refine W_iload_n d_200_15 rfl ?_
    refine W_icmp_ge (tgt := 83) d_200_16 (by decide) (fun h16 => ?_) (fun h16 => absurd (nI_le (a := m) (b := i) (by omega) (by omega)) h16)
    rw [ei] at hq ⊢
    exact kk _ _ _ hq hF
  | succ k ih =>
    intro i Y S c hi hq hF
    refine W_iload d_200_13 rfl ?_
    refine W_iload_n d_200_15 rfl ?_
    refine W_icmp_ge (tgt := 83) d_200_16 (by decide) (fun h16 => absurd h16 (nI_ge (a := i) (b := m) (by omega) (by omega))) (fun h16 => ?_)
    refine W_iconst d_200_19 (v := 0) (by decide) ?_
    refine W_istore d_200_20 rfl ?_
    refine lp_200s (Y0 := Y) (S0 := S) (A := (wns (fun _ => zt R) 0 l Lr z n p most i).1) (l := (wns (fun _ => zt R) 0 l Lr z n p most i).2) (n := n) hmo (by omega) (fun Y1 hq1 hF1 => ?_) 6 0 _ (by omega) hq FRh.refl
    refine W_aload_n d_200_73 rfl (by decide) ?_
    refine W_callVQ d_200_74 o_200 (Or.inl k_7_220) (by omega) (x_173 (A := sbA (wns (fun _ => zt R) 0 l Lr z n p most i).1 0 (wns (fun _ => zt R) 0 l Lr z n p most i).2 most 6) (r := 0) ((hX.fr hF hq (wns_ap _ _ _ _ _ _ _ _ _ _ (by omega) _) (wns_ap _ _ _ _ _ _ _ _ _ _ (by omega) _) (fun j _ => wns_row _ _ _ _ _ _ _ _ _ _ _ (by omega) _)).fr hF1 hq1 (sbA_row _ _ _ _ _ _ _ (by omega) _) (sbA_row _ _ _ _ _ _ _ (by omega) _) (fun j _ => sbA_row _ _ _ _ _ _ _ (by omega) _)) (p := p) ((sbA_row _ _ _ _ _ _ _ (by omega) _).trans ((wns_ap _ _ _ _ _ _ _ _ _ _ (by omega) _).trans hp)) hp6 (by omega)) rfl (mrecv_of rfl o_173.symm) rfl (Nat.le_of_ble_eq_true rfl) ?_
    rintro _ _ ⟨rfl, Y2, S2, rfl, hF2, hq2⟩
    refine W_iinc (v := 1) d_200_77 rfl (by decide) rfl ?_
    rw [show ((nI i + 1 : Int32)) = nI (i + 1) from nI_add i 1]
    refine W_goto (tgt := 13) d_200_80 (by decide) ?_
    exact ih (i + 1) _ _ _ (by omega) hq2 (hF.trans (hF1.trans hF2))
theorem x_200 {d : Nat} {g : mG} {N : Nat} {P : Nat → mC} {Y : tR} {S : Nat → Int32} {R Lr : tR} {z : Nat → Nat} {n p t : Nat} (hX : MS Y S R Lr z n p t) {m : Nat} (hm : m < 2 ^ 31) {sd most : Int32} (hmo : ¬ (most + 1).toInt64 = 0) (hd : 7 ≤ d) : Wp d 200 0 (ment 200 [.ref 92, .int sd, .int (nI m), .int most]) [] (N, H3 g P (mm Y S)) (fun v M' => v = none ∧ ∃ Y' S', M' = (N, H3 g P (mm Y' S')) ∧ FRg Y S Y' S' ∧ GO n (win R (sd.toInt64 + 1) Lr z n p most m) Y' S') := by
  show Wp _ 200 0 [.ref 92, .int sd, .int (nI m), .int most, .null, .null, .null, .null] [] _ _
  refine W_iload_n d_200_0 rfl ?_
  refine W_i2l d_200_1 ?_
  refine W_lconst d_200_2 (v := 1) (by decide) ?_
  refine W_ladd d_200_3 ?_
  refine W_lstore d_200_4 rfl ?_
  refine W_aload_n d_200_6 rfl (by decide) ?_
  refine W_callVQ d_200_7 o_200 (Or.inl k_7_232) (by omega) (x_179 (by omega)) rfl (mrecv_of rfl o_179.symm) rfl (Nat.le_of_ble_eq_true rfl) ?_
  rintro _ _ ⟨rfl, Y1, S1, rfl, h1⟩
  refine W_iconst d_200_10 (v := 0) (by decide) ?_
  refine W_istore d_200_11 rfl ?_
  refine lp_200 (Y0 := Y1) (S0 := S1) (l := sd.toInt64 + 1) (h1.mx hX) hX.2.2.2.1 hX.2.2.2.2.1 hm hmo hd (fun Y2 S2 c hq2 hF2 => ?_) m 0 _ _ _ (by omega) (h1.mx hX).1 FRh.refl
  refine W_aload_n d_200_83 rfl (by decide) ?_
  refine W_callVQ d_200_84 o_200 (Or.inl k_7_235) (by omega) (x_180 (n := n) (by rw [hF2.2 0 (by decide), h1.2.1 0 (by decide), hX.n0]) hX.2.2.1) rfl (mrecv_of rfl o_180.symm) rfl (Nat.le_of_ble_eq_true rfl) ?_
  rintro _ _ ⟨rfl, Y3, S3, rfl, h3⟩
  refine W_ret d_200_87 rt_200 ?_
  exact ⟨rfl, _, _, rfl, laid hX.2.2.1 h1 hF2 hq2 h3⟩
theorem x_183 {d : Nat} {g : mG} {N : Nat} {P : Nat → mC} {Y : tR} {S : Nat → Int32} {n : Nat} {X : tR} (hn : S 0 = nI n) (hn12 : n ≤ 12) (hG : GO n X Y S) {w : Int32} (hw : 0 ≤ w ∧ w ≤ 4) (hd : 1 ≤ d) : Ex d 183 [.ref 92, .int w] (N, H3 g P (mm Y S)) (some (.int (ans_ X n w))) (N, H3 g P (mm Y S)) := by
  refine Ex.of ?_
  show Wp _ 183 0 [.ref 92, .int w] [] _ _
  refine W_iload_n d_183_0 rfl ?_
  by_cases s1_0 : w = 0
  · refine W_table (tgt := 36) d_183_1 (off := 35) (by rw [s1_0]; decide) (by decide) ?_
    refine W_aload_n d_183_36 rfl (by decide) ?_
    refine W_callV d_183_37 o_183 (Or.inl k_7_223) (by omega) (x_175 (X := X) hn hn12 (fun j hj => (hG.1 j hj).1)) rfl (mrecv_of rfl o_175.symm) rfl (Nat.le_of_ble_eq_true rfl) ?_
    refine W_iret d_183_40 rt_183 rfl ?_
    subst s1_0
    exact ⟨rfl, rfl⟩
  by_cases s1_1 : w = 1
  · refine W_table (tgt := 41) d_183_1 (off := 40) (by rw [s1_1]; decide) (by decide) ?_
    refine W_aload_n d_183_41 rfl (by decide) ?_
    refine W_callV d_183_42 o_183 (Or.inl k_7_238) (by omega) (x_176 (X := X) hn hn12 (fun j hj => (hG.1 j hj).2.1)) rfl (mrecv_of rfl o_176.symm) rfl (Nat.le_of_ble_eq_true rfl) ?_
    refine W_iret d_183_45 rt_183 rfl ?_
    subst s1_1
    exact ⟨rfl, rfl⟩
  by_cases s1_2 : w = 2
  · refine W_table (tgt := 46) d_183_1 (off := 45) (by rw [s1_2]; decide) (by decide) ?_
    refine W_aload_n d_183_46 rfl (by decide) ?_
    refine W_getf d_183_47 o_183 k_7_199 rfl rfl ?_
    refine W_iret d_183_50 rt_183 rfl ?_
    subst s1_2
    exact ⟨congrArg (fun z => some (Value.int z)) hG.2.1, rfl⟩
  by_cases s1_3 : w = 3
  · refine W_table (tgt := 51) d_183_1 (off := 50) (by rw [s1_3]; decide) (by decide) ?_
    refine W_aload_n d_183_51 rfl (by decide) ?_
    refine W_getf d_183_52 o_183 k_7_229 rfl rfl ?_
    refine W_iret d_183_55 rt_183 rfl ?_
    subst s1_3
    exact ⟨congrArg (fun z => some (Value.int z)) hG.2.2, rfl⟩
  by_cases s1_4 : w = 4
  · refine W_table (tgt := 56) d_183_1 (off := 55) (by rw [s1_4]; decide) (by decide) ?_
    refine W_aload_n d_183_56 rfl (by decide) ?_
    refine W_callV d_183_57 o_183 (Or.inl k_7_241) (by omega) (x_182 (X := X) hn hn12 (fun j hj => (hG.1 j hj).1)) rfl (mrecv_of rfl o_182.symm) rfl (Nat.le_of_ble_eq_true rfl) ?_
    refine W_iret d_183_60 rt_183 rfl ?_
    subst s1_4
    exact ⟨rfl, rfl⟩
  refine W_table (tgt := 61) d_183_1 (off := 60) (if_pos (by have q0 := lv_neT (a := 0) s1_0 (by decide); have q1 := lv_neT (a := 1) s1_1 (by decide); have q2 := lv_neT (a := 2) s1_2 (by decide); have q3 := lv_neT (a := 3) s1_3 (by decide); have q4 := lv_neT (a := 4) s1_4 (by decide); omega)) (by decide) ?_
  exfalso
  have t0 : (0 : Int32).toInt = 0 := rfl
  have t1 : (1 : Int32).toInt = 1 := rfl
  have t2 : (2 : Int32).toInt = 2 := rfl
  have t3 : (3 : Int32).toInt = 3 := rfl
  have t4 : (4 : Int32).toInt = 4 := rfl
  simp only [← Int32.toInt_inj, Int32.le_iff_toInt_le, t0, t1, t2, t3, t4] at *
  omega
theorem x_183a {d : Nat} {g : mG} {N : Nat} {P : Nat → mC} {Y : tR} {S : Nat → Int32} {n : Nat} {X : tR} (hn : S 0 = nI n) (hn12 : n ≤ 12) (hG : GO n X Y S) {j : Nat} (hj : j < n) : Ex d 183 [.ref 92, .int (nI (10 + j))] (N, H3 g P (mm Y S)) (some (.int (X 7 j))) (N, H3 g P (mm Y S)) := by
  refine Ex.of ?_
  show Wp _ 183 0 [.ref 92, .int (nI (10 + j))] [] _ _
  refine W_iload_n d_183_0 rfl ?_
  refine W_table (tgt := 61) d_183_1 (off := 60) (if_pos (by rw [nI_toInt (by omega)]; omega)) (by decide) ?_
  refine W_iload_n d_183_61 rfl ?_
  refine W_bipush d_183_62 (v := 30) (by decide) ?_
  refine W_icmp_ge (tgt := 79) d_183_64 (by decide) (fun h64 => absurd h64 (nI_ge (a := 10 + j) (b := 30) (by omega) (by omega))) (fun h64 => ?_)
  refine W_aload_n d_183_67 rfl (by decide) ?_
  refine W_getf d_183_68 o_183 k_7_71 rfl rfl ?_
  refine W_iload_n d_183_71 rfl ?_
  refine W_bipush d_183_72 (v := 10) (by decide) ?_
  refine W_isub d_183_74 ?_
  rw [show (nI (10 + j) - 10 : Int32) = nI j from (pk_sub (a := 10 + j) (b := 10) (by omega)).trans (congrArg nI (Nat.add_sub_cancel_left _ _))]
  refine W_mld (a := 19) d_183_75 rfl (by decide) (n := 12) rfl (vp_in_nI (by omega) (by decide)) ((congrArg (Y 19) (nI_clamp (by omega))).trans (hG.1 j hj).1) ?_
  refine W_goto (tgt := 106) d_183_76 (by decide) ?_
  refine W_iret d_183_106 rt_183 rfl ?_
  exact ⟨rfl, rfl⟩
theorem x_183b {d : Nat} {g : mG} {N : Nat} {P : Nat → mC} {Y : tR} {S : Nat → Int32} {n : Nat} {X : tR} (hn : S 0 = nI n) (hn12 : n ≤ 12) (hG : GO n X Y S) {j : Nat} (hj : j < n) : Ex d 183 [.ref 92, .int (nI (30 + j))] (N, H3 g P (mm Y S)) (some (.int (X 8 j))) (N, H3 g P (mm Y S)) := by
  refine Ex.of ?_
  show Wp _ 183 0 [.ref 92, .int (nI (30 + j))] [] _ _
  refine W_iload_n d_183_0 rfl ?_
  refine W_table (tgt := 61) d_183_1 (off := 60) (if_pos (by rw [nI_toInt (by omega)]; omega)) (by decide) ?_
  refine W_iload_n d_183_61 rfl ?_
  refine W_bipush d_183_62 (v := 30) (by decide) ?_
  refine W_icmp_ge (tgt := 79) d_183_64 (by decide) (fun h64 => ?_) (fun h64 => absurd (nI_le (a := 30) (b := 30 + j) (by omega) (by omega)) h64)
  refine W_iload_n d_183_79 rfl ?_
  refine W_bipush d_183_80 (v := 50) (by decide) ?_
  refine W_icmp_ge (tgt := 97) d_183_82 (by decide) (fun h82 => absurd h82 (nI_ge (a := 30 + j) (b := 50) (by omega) (by omega))) (fun h82 => ?_)
  refine W_aload_n d_183_85 rfl (by decide) ?_
  refine W_getf d_183_86 o_183 k_7_74 rfl rfl ?_
  refine W_iload_n d_183_89 rfl ?_
  refine W_bipush d_183_90 (v := 30) (by decide) ?_
  refine W_isub d_183_92 ?_
  rw [show (nI (30 + j) - 30 : Int32) = nI j from (pk_sub (a := 30 + j) (b := 30) (by omega)).trans (congrArg nI (Nat.add_sub_cancel_left _ _))]
  refine W_mld (a := 20) d_183_93 rfl (by decide) (n := 12) rfl (vp_in_nI (by omega) (by decide)) ((congrArg (Y 20) (nI_clamp (by omega))).trans (hG.1 j hj).2.1) ?_
  refine W_goto (tgt := 106) d_183_94 (by decide) ?_
  refine W_iret d_183_106 rt_183 rfl ?_
  exact ⟨rfl, rfl⟩
theorem x_183c {d : Nat} {g : mG} {N : Nat} {P : Nat → mC} {Y : tR} {S : Nat → Int32} {n : Nat} {X : tR} (hn : S 0 = nI n) (hn12 : n ≤ 12) (hG : GO n X Y S) {j : Nat} (hj : j < n) : Ex d 183 [.ref 92, .int (nI (50 + j))] (N, H3 g P (mm Y S)) (some (.int (X 2 j))) (N, H3 g P (mm Y S)) := by
  refine Ex.of ?_
  show Wp _ 183 0 [.ref 92, .int (nI (50 + j))] [] _ _
  refine W_iload_n d_183_0 rfl ?_
  refine W_table (tgt := 61) d_183_1 (off := 60) (if_pos (by rw [nI_toInt (by omega)]; omega)) (by decide) ?_
  refine W_iload_n d_183_61 rfl ?_
  refine W_bipush d_183_62 (v := 30) (by decide) ?_
  refine W_icmp_ge (tgt := 79) d_183_64 (by decide) (fun h64 => ?_) (fun h64 => absurd (nI_le (a := 30) (b := 50 + j) (by omega) (by omega)) h64)
  refine W_iload_n d_183_79 rfl ?_
  refine W_bipush d_183_80 (v := 50) (by decide) ?_
  refine W_icmp_ge (tgt := 97) d_183_82 (by decide) (fun h82 => ?_) (fun h82 => absurd (nI_le (a := 50) (b := 50 + j) (by omega) (by omega)) h82)
  refine W_aload_n d_183_97 rfl (by decide) ?_
  refine W_getf d_183_98 o_183 k_7_80 rfl rfl ?_
  refine W_iload_n d_183_101 rfl ?_
  refine W_bipush d_183_102 (v := 50) (by decide) ?_
  refine W_isub d_183_104 ?_
  rw [show (nI (50 + j) - 50 : Int32) = nI j from (pk_sub (a := 50 + j) (b := 50) (by omega)).trans (congrArg nI (Nat.add_sub_cancel_left _ _))]
  refine W_mld (a := 22) d_183_105 rfl (by decide) (n := 12) rfl (vp_in_nI (by omega) (by decide)) ((congrArg (Y 22) (nI_clamp (by omega))).trans (hG.1 j hj).2.2) ?_
  refine W_iret d_183_106 rt_183 rfl ?_
  exact ⟨rfl, rfl⟩
