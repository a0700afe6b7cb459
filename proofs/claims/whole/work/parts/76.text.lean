/-! TEXTS: the class reads a part, a text (wip/whole/gen76.py) -/
def pprt (f : Nat → Int32) (sz F p s : Nat) : Bool × Nat × List Int32 := if tok f sz s = nI p then pbd (pgo f sz F 0 (nxt f sz s) 0) (fun s1 l1 => if tok f sz s1 = 59 then (true, nxt f sz s1, l1) else (false, s1, [])) else (false, s, [])
theorem nI_nm {p : Nat} (h : p < 2 ^ 31) : ¬ nI p = -1 := fun q => absurd (nI_pos' h) (by rw [q]; decide)
theorem pprt_ok {f : Nat → Int32} {sz F p s s1 : Nat} {l : List Int32} (hp : p < 3) (hs : s ≤ sz) (h : pprt f sz F p s = (true, s1, l)) : s < s1 ∧ s1 ≤ sz ∧ l.length < s1 - s ∧ tok f sz s = nI p ∧ ∃ s', pgo f sz F 0 (nxt f sz s) 0 = (true, s', l) ∧ tok f sz s' = 59 ∧ s1 = nxt f sz s' := by
  unfold pprt at h
  by_cases ht : tok f sz s = nI p
  · rw [if_pos ht] at h
    have hn := nxt_b (f := f) (tok_v hs ht (nI_nm (by omega)))
    obtain ⟨s2, l2, e, h⟩ := pbd_ok h
    have q := pgo_ok F _ _ _ _ _ hn.2 e
    by_cases hu : tok f sz s2 = 59
    · rw [if_pos hu] at h
      have hn2 := nxt_b (f := f) (tok_v q.2.1 hu (by decide))
      cases h
      exact ⟨by omega, hn2.2, by omega, ht, s2, e, hu, rfl⟩
    · rw [if_neg hu] at h
      cases h
  · rw [if_neg ht] at h
    cases h
theorem u3_row {A : Nat → tR} {r i j : Nat} {v : Int32} : u3 A r i j v r i = va_up (A r i) j v := by
  unfold u3
  rw [va_same, va_same]
theorem u3_rne {A : Nat → tR} {r i j c : Nat} {v : Int32} (h : ¬ c = i) : u3 A r i j v r c = A r c := by
  unfold u3
  rw [va_same, va_oth _ _ h]
theorem LA.row {R R1 R2 : tR} {z : Nat} {l : List Int32} (h : LA R z l R1) (h0 : R2 0 = R1 0) (h2 : R2 2 = R1 2) : LA R z l R2 := ⟨by rw [h2]; exact h.1, fun k hk => by rw [h0]; exact h.2.1 k hk, fun k hk => by rw [h0]; exact h.2.2 k hk⟩
theorem LA.base {R R0 R1 : tR} {l : List Int32} (h : LA R 0 l R1) : LA R0 0 l R1 := ⟨h.1, fun k hk => absurd hk (Nat.not_lt_zero _), h.2.2⟩
def PQ (g : mG) (N : Nat) (A K : Nat → tR) (E : Nat → Int32) (l : Int64) (G : tR) (Qm : Nat → mC) (f : Nat → Int32) (sz t : Nat) (T : Nat → tR) (p z : Nat) (r : Bool × Nat × List Int32) : Option Value → mM → Prop := fun v M => ∃ B' T', v = some (.int (bI r.1)) ∧ M = (N, H3 g (cc A T' K B' E l G) Qm) ∧ (∀ i, ¬ i = t → T' i = T i) ∧ B' 0 = f ∧ B' 1 2 = nI r.2.1 ∧ T' t 1 0 = T t 1 0 ∧ (r.1 = true → RS f sz r.2.1 t B' ∧ LA (T t) z r.2.2 (T' t) ∧ T' t 1 = va_up (T t 1) (p + 1) (nI (z + r.2.2.length)))
def PR (g : mG) (N : Nat) (A K : Nat → tR) (E : Nat → Int32) (l : Int64) (G : tR) (Qm : Nat → mC) (a : Int32) (X : (Nat → tR) → Prop) : Option Value → mM → Prop := fun v M => ∃ B' T', v = some (.int a) ∧ M = (N, H3 g (cc A T' K B' E l G) Qm) ∧ X T'
section
variable {g : mG} {N : Nat} {A K : Nat → tR} {E : Nat → Int32} {l : Int64} {G : tR} {Qm : Nat → mC} {f : Nat → Int32} {sz t : Nat}
theorem x_39 {F : Nat} (hF : 1000 ≤ F) (ht : t < 6) (hz : sz ≤ 160) (hby : ∀ k, k < sz → 0 ≤ f k ∧ f k ≤ 255) {d : Nat} {T : Nat → tR} {B : tR} {p s z : Nat} (hp : p < 3) (hd : 73 ≤ d) (hs : s ≤ sz) (hzs : z ≤ s) (hT : T t 2 0 = nI z) (hB : RS f sz s t B) : Wp d 39 0 (ment 39 [.ref 55, .int (nI p)]) [] (N, H3 g (cc A T K B E l G) Qm) (PQ g N A K E l G Qm f sz t T p z (pprt f sz F p s)) := by
  have hB' := hB
  obtain ⟨b0, b1, b2, b3, b4, b5, b6⟩ := hB'
  have w0 : wdn 0 = 9 := by decide
  have g0 : hgt 0 = 5 := by decide
  unfold pprt
  show Wp _ 39 0 [.ref 55, .int (nI p)] [] _ _
  by_cases hk : tok f sz s = nI p
  · rw [if_pos hk]
    have hn := nxt_b (f := f) (tok_v hs hk (nI_nm (by omega)))
    obtain ⟨b, s1, l1, hr⟩ := tri (pgo f sz F 0 (nxt f sz s) 0)
    have hl : ∀ B2, RS f sz (nxt f sz s) t B2 → Wp (d - 1) 40 0 (ment 40 [.ref 55, .int 0, .int 0]) [] (N, H3 g (cc A T K B2 E l G) Qm) (PP g N A K E l G Qm f sz t T z (b, s1, l1)) := fun B2 hB2 => by
      rw [← hr]
      exact (cp ht hz hby F (d - 1) T B2 0 (nxt f sz s) 0 z (by omega) (by omega) hn.2 (by omega) hT hB2 (by omega)).1 (by decide)
    rw [hr]
    cases b with
    | false =>
        rw [pbd_f]
        refine W_aload_n d_39_0 rfl (by decide) ?_
        refine W_getf d_39_1 o_39 k_3_41 rfl rfl ?_
        rw [b4]
        refine W_iload_n d_39_4 rfl ?_
        refine W_icmp_eq (tgt := 10) d_39_5 (by decide) (fun h5 => ?_) (fun h5 => absurd hk h5)
        refine W_aload_n d_39_10 rfl (by decide) ?_
        refine W_callVQ d_39_11 o_39 (Or.inl k_3_31) (by omega) (x_47n hz hby (by omega) hs hB) rfl (mrecv_of rfl o_47.symm) rfl (Nat.le_of_ble_eq_true rfl) ?_
        rintro _ _ ⟨rfl, B2, hB2, rfl⟩
        refine W_aload_n d_39_14 rfl (by decide) ?_
        refine W_iconst d_39_15 (v := 0) (by decide) ?_
        refine W_iconst d_39_16 (v := 0) (by decide) ?_
        refine W_callVQ d_39_17 o_39 (Or.inl k_3_44) (by omega) (hl B2 hB2) rfl (mrecv_of rfl o_40.symm) rfl (Nat.le_of_ble_eq_true rfl) ?_
        rintro _ _ ⟨B1, T1, rfl, rfl, hT1, h0, h1, h2, h3⟩
        show Wp _ _ _ _ (.int 0 :: _) _ _
        refine W_if_eq (tgt := 32) d_39_20 (by decide) (fun _ => ?_) (fun h20 => absurd h20 (by decide))
        refine W_iconst d_39_32 (v := 0) (by decide) ?_
        refine W_iret d_39_33 rt_39 rfl ?_
        exact ⟨B1, T1, rfl, rfl, fun i hi => funext (fun j => hT1 i j (fun q => hi q.1)), h0, h2, congrFun (hT1 t 1 (by omega)) 0, no_tf⟩
      | true =>
        have q := pgo_ok F _ _ _ _ _ hn.2 hr
        rw [pbd_t]
        by_cases hu : tok f sz s1 = 59
        · rw [if_pos hu]
          refine W_aload_n d_39_0 rfl (by decide) ?_
          refine W_getf d_39_1 o_39 k_3_41 rfl rfl ?_
          rw [b4]
          refine W_iload_n d_39_4 rfl ?_
          refine W_icmp_eq (tgt := 10) d_39_5 (by decide) (fun h5 => ?_) (fun h5 => absurd hk h5)
          refine W_aload_n d_39_10 rfl (by decide) ?_
          refine W_callVQ d_39_11 o_39 (Or.inl k_3_31) (by omega) (x_47n hz hby (by omega) hs hB) rfl (mrecv_of rfl o_47.symm) rfl (Nat.le_of_ble_eq_true rfl) ?_
          rintro _ _ ⟨rfl, B2, hB2, rfl⟩
          refine W_aload_n d_39_14 rfl (by decide) ?_
          refine W_iconst d_39_15 (v := 0) (by decide) ?_
          refine W_iconst d_39_16 (v := 0) (by decide) ?_
          refine W_callVQ d_39_17 o_39 (Or.inl k_3_44) (by omega) (hl B2 hB2) rfl (mrecv_of rfl o_40.symm) rfl (Nat.le_of_ble_eq_true rfl) ?_
          rintro _ _ ⟨B1, T1, rfl, rfl, hT1, h0, h1, h2, h3⟩
          show Wp _ _ _ _ (.int 1 :: _) _ _
          have h4 : RS f sz s1 t B1 ∧ LA (T t) z l1 (T1 t) := h3 rfl
          refine W_if_eq (tgt := 32) d_39_20 (by decide) (fun h20 => absurd h20 (by decide)) (fun _ => ?_)
          refine W_aload_n d_39_23 rfl (by decide) ?_
          refine W_getf d_39_24 o_39 k_3_41 rfl rfl ?_
          rw [h4.1.2.2.2.2.1]
          refine W_bipush d_39_27 (v := 59) (by decide) ?_
          refine W_icmp_eq (tgt := 34) d_39_29 (by decide) (fun h29 => ?_) (fun h29 => absurd hu h29)
          refine W_aload_n d_39_34 rfl (by decide) ?_
          refine W_callVQ d_39_35 o_39 (Or.inl k_3_31) (by omega) (x_47n hz hby (by omega) q.2.1 h4.1) rfl (mrecv_of rfl o_47.symm) rfl (Nat.le_of_ble_eq_true rfl) ?_
          rintro _ _ ⟨rfl, B3, hB3, rfl⟩
          refine W_aload_n d_39_38 rfl (by decide) ?_
          refine W_getf d_39_39 o_39 k_3_19 rfl rfl ?_
          show Wp _ _ _ _ (lref (B3 1 5) :: _) _ _
          rw [hB3.2.2.2.2.2.2, lref_nI ht]
          refine W_iload_n d_39_42 rfl ?_
          refine W_callV d_39_43 o_39 (Or.inl k_3_48) (by omega) (x_18 ht hp) rfl (mrecv_of (h_law (by assumption)) o_18.symm) rfl (Nat.le_of_ble_eq_true rfl) ?_
          refine W_iconst d_39_46 (v := 1) (by decide) ?_
          refine W_iret d_39_47 rt_39 rfl ?_
          refine ⟨B3, _, rfl, rfl, fun i hi => (u3_oth hi).trans (funext (fun j => hT1 i j (fun q => hi q.1))), hB3.1, hB3.2.2.2.1, ?_, fun _ => ⟨hB3, h4.2.row (u3_rne (by decide)) (u3_rne (by decide)), ?_⟩⟩
          · exact (u3_ap _ _ _ _ _ _ _ _).trans ((if_neg (by omega)).trans (congrFun (hT1 t 1 (by omega)) 0))
          · refine u3_row.trans ?_
            rw [h4.2.1, hT1 t 1 (by omega)]
        · rw [if_neg hu]
          refine W_aload_n d_39_0 rfl (by decide) ?_
          refine W_getf d_39_1 o_39 k_3_41 rfl rfl ?_
          rw [b4]
          refine W_iload_n d_39_4 rfl ?_
          refine W_icmp_eq (tgt := 10) d_39_5 (by decide) (fun h5 => ?_) (fun h5 => absurd hk h5)
          refine W_aload_n d_39_10 rfl (by decide) ?_
          refine W_callVQ d_39_11 o_39 (Or.inl k_3_31) (by omega) (x_47n hz hby (by omega) hs hB) rfl (mrecv_of rfl o_47.symm) rfl (Nat.le_of_ble_eq_true rfl) ?_
          rintro _ _ ⟨rfl, B2, hB2, rfl⟩
          refine W_aload_n d_39_14 rfl (by decide) ?_
          refine W_iconst d_39_15 (v := 0) (by decide) ?_
          refine W_iconst d_39_16 (v := 0) (by decide) ?_
          refine W_callVQ d_39_17 o_39 (Or.inl k_3_44) (by omega) (hl B2 hB2) rfl (mrecv_of rfl o_40.symm) rfl (Nat.le_of_ble_eq_true rfl) ?_
          rintro _ _ ⟨B1, T1, rfl, rfl, hT1, h0, h1, h2, h3⟩
          show Wp _ _ _ _ (.int 1 :: _) _ _
          have h4 : RS f sz s1 t B1 ∧ LA (T t) z l1 (T1 t) := h3 rfl
          refine W_if_eq (tgt := 32) d_39_20 (by decide) (fun h20 => absurd h20 (by decide)) (fun _ => ?_)
          refine W_aload_n d_39_23 rfl (by decide) ?_
          refine W_getf d_39_24 o_39 k_3_41 rfl rfl ?_
          rw [h4.1.2.2.2.2.1]
          refine W_bipush d_39_27 (v := 59) (by decide) ?_
          refine W_icmp_eq (tgt := 34) d_39_29 (by decide) (fun h29 => absurd h29 hu) (fun h29 => ?_)
          refine W_iconst d_39_32 (v := 0) (by decide) ?_
          refine W_iret d_39_33 rt_39 rfl ?_
          exact ⟨B1, T1, rfl, rfl, fun i hi => funext (fun j => hT1 i j (fun q => hi q.1)), h0, h2, congrFun (hT1 t 1 (by omega)) 0, no_tf⟩
  · rw [if_neg hk]
    refine W_aload_n d_39_0 rfl (by decide) ?_
    refine W_getf d_39_1 o_39 k_3_41 rfl rfl ?_
    rw [b4]
    refine W_iload_n d_39_4 rfl ?_
    refine W_icmp_eq (tgt := 10) d_39_5 (by decide) (fun h5 => absurd h5 hk) (fun h5 => ?_)
    refine W_iconst d_39_8 (v := 0) (by decide) ?_
    refine W_iret d_39_9 rt_39 rfl ?_
    exact ⟨B, T, rfl, rfl, fun _ _ => rfl, b0, b3, rfl, no_tf⟩
theorem x_37 {d : Nat} {T : Nat → tR} {B : tR} : Ex d 37 [.ref 55] (N, H3 g (cc A T K B E l G) Qm) none (N, H3 g (cc A T K (u2 B 1 0 0) E l G) Qm) := by
  refine Ex.of ?_
  show Wp _ 37 0 [.ref 55] [] _ _
  refine W_aload_n d_37_0 rfl (by decide) ?_
  refine W_iconst d_37_1 (v := 0) (by decide) ?_
  refine W_putf d_37_2 o_37 k_3_15 rfl (Nat.le_of_ble_eq_true rfl) rfl ms_rr1 ?_
  refine W_ret d_37_5 rt_37 ?_
  exact ⟨rfl, rfl⟩
theorem mput_lb {t : Nat} (ht : t < 6) : mput 38 3 6 (.ref (lb t)) = true := by
  have : t = 0 ∨ t = 1 ∨ t = 2 ∨ t = 3 ∨ t = 4 ∨ t = 5 := by omega
  rcases this with rfl | rfl | rfl | rfl | rfl | rfl <;> rfl
theorem x_38_0 {F : Nat} (hF : 1000 ≤ F) (ht : t < 6) (hz : sz ≤ 160) (hby : ∀ k, k < sz → 0 ≤ f k ∧ f k ≤ 255) {d : Nat} {T : Nat → tR} {B : tR} {s1 : Nat} {l0 : List Int32} (hd : 74 ≤ d) (b0 : B 0 = f) (b1 : B 1 0 = nI sz) (hr0 : pprt f sz F 0 (tst f sz 0) = (false, s1, l0)) : Wp d 38 0 (ment 38 [.ref 55, .ref (lb t)]) [] (N, H3 g (cc A T K B E l G) Qm) (PR g N A K E l G Qm (nI s1) (fun T' => (∀ i, ¬ i = t → T' i = T i) ∧ T' t 1 0 = T t 1 0)) := by
  have hs0 : tst f sz 0 ≤ sz := (tst_b (Nat.zero_le _)).2
  have hl0 : ∀ (T : Nat → tR) (B : tR), T t 2 0 = nI 0 → RS f sz (tst f sz 0) t B → Wp (d - 1) 39 0 (ment 39 [.ref 55, .int 0]) [] (N, H3 g (cc A T K B E l G) Qm) (PQ g N A K E l G Qm f sz t T 0 0 (false, s1, l0)) := fun T B h1 h2 => by
    rw [← hr0]
    exact x_39 hF ht hz hby (p := 0) (by decide) (by omega) hs0 (by omega) h1 h2
  show Wp _ 38 0 [.ref 55, .ref (lb t), .null] [] _ _
  refine W_aload_n d_38_0 rfl (by decide) ?_
  refine W_aload_n d_38_1 rfl (lb_ne (by assumption)) ?_
  refine W_putf d_38_2 o_38 k_3_19 rfl (Nat.le_of_ble_eq_true rfl) (mput_lb ht) (ms_rr6 ht) ?_
  refine W_aload_n d_38_5 rfl (by decide) ?_
  refine W_getf d_38_6 o_38 k_3_19 rfl rfl ?_
  show Wp _ _ _ _ (lref (u2 B 1 5 (nI t) 1 5) :: _) _ _
  rw [u2_at, lref_nI ht]
  refine W_callV d_38_9 o_38 (Or.inl k_3_23) (by omega) (x_16 ht) rfl (mrecv_of (h_law (by assumption)) o_16.symm) rfl (Nat.le_of_ble_eq_true rfl) ?_
  refine W_aload_n d_38_12 rfl (by decide) ?_
  refine W_iconst d_38_13 (v := 0) (by decide) ?_
  refine W_putf d_38_14 o_38 k_3_28 rfl (Nat.le_of_ble_eq_true rfl) rfl ms_rr2 ?_
  have hT0 : u3 T t 2 0 0 t 2 0 = nI 0 := (u3_ap _ _ _ _ _ _ _ _).trans (if_pos ⟨rfl, rfl, rfl⟩)
  have g0 : u2 (u2 B 1 5 (nI t)) 1 1 0 0 = f := (u2_row (by decide)).trans ((u2_row (by decide)).trans b0)
  have g1 : u2 (u2 B 1 5 (nI t)) 1 1 0 1 0 = nI sz := (u2_ot (by decide)).trans ((u2_ot (by decide)).trans b1)
  have g2 : u2 (u2 B 1 5 (nI t)) 1 1 0 1 1 = nI 0 := u2_at
  have g5 : u2 (u2 B 1 5 (nI t)) 1 1 0 1 5 = nI t := (u2_ot (by decide)).trans u2_at
  refine W_aload_n d_38_17 rfl (by decide) ?_
  refine W_callVQ d_38_18 o_38 (Or.inl k_3_31) (by omega) (x_47g hz hby (by omega) (Nat.zero_le _) g0 g1 g2 g5) rfl (mrecv_of rfl o_47.symm) rfl (Nat.le_of_ble_eq_true rfl) ?_
  rintro _ _ ⟨rfl, B2, hB2, rfl⟩
  refine W_iconst d_38_21 (v := 0) (by decide) ?_
  refine W_istore_n d_38_22 rfl ?_
  refine W_iload_n d_38_23 rfl ?_
  refine W_iconst d_38_24 (v := 3) (by decide) ?_
  refine W_icmp_ge (tgt := 47) d_38_25 (by decide) (fun h25 => absurd h25 (by decide)) (fun _ => ?_)
  refine W_aload_n d_38_28 rfl (by decide) ?_
  refine W_iload_n d_38_29 rfl ?_
  refine W_callVQ d_38_30 o_38 (Or.inl k_3_34) (by omega) (hl0 _ _ hT0 hB2) rfl (mrecv_of rfl o_39.symm) rfl (Nat.le_of_ble_eq_true rfl) ?_
  rintro _ _ ⟨B0x, T0, rfl, rfl, a0, c0, e0, f0, g0⟩
  show Wp _ _ _ _ (.int 0 :: _) _ _
  refine W_if_ne (tgt := 41) d_38_33 (by decide) (fun h33 => absurd h33 (by decide)) (fun _ => ?_)
  refine W_aload_n d_38_36 rfl (by decide) ?_
  refine W_getf d_38_37 o_38 k_3_38 rfl rfl ?_
  rw [e0]
  refine W_iret d_38_40 rt_38 rfl ?_
  exact ⟨B0x, T0, rfl, rfl, fun i hi => (a0 i hi).trans (u3_oth hi), (f0.trans (congrFun (u3_rne (by decide)) 0))⟩
theorem x_38_1 {F : Nat} (hF : 1000 ≤ F) (ht : t < 6) (hz : sz ≤ 160) (hby : ∀ k, k < sz → 0 ≤ f k ∧ f k ≤ 255) {d : Nat} {T : Nat → tR} {B : tR} {s1 s2 : Nat} {l0 l1 : List Int32} (hd : 74 ≤ d) (b0 : B 0 = f) (b1 : B 1 0 = nI sz) (hr0 : pprt f sz F 0 (tst f sz 0) = (true, s1, l0)) (hr1 : pprt f sz F 1 s1 = (false, s2, l1)) : Wp d 38 0 (ment 38 [.ref 55, .ref (lb t)]) [] (N, H3 g (cc A T K B E l G) Qm) (PR g N A K E l G Qm (nI s2) (fun T' => (∀ i, ¬ i = t → T' i = T i) ∧ T' t 1 0 = T t 1 0)) := by
  have hs0 : tst f sz 0 ≤ sz := (tst_b (Nat.zero_le _)).2
  have q0 := pprt_ok (p := 0) (by decide) hs0 hr0
  have hl0 : ∀ (T : Nat → tR) (B : tR), T t 2 0 = nI 0 → RS f sz (tst f sz 0) t B → Wp (d - 1) 39 0 (ment 39 [.ref 55, .int 0]) [] (N, H3 g (cc A T K B E l G) Qm) (PQ g N A K E l G Qm f sz t T 0 0 (true, s1, l0)) := fun T B h1 h2 => by
    rw [← hr0]
    exact x_39 hF ht hz hby (p := 0) (by decide) (by omega) hs0 (by omega) h1 h2
  have hl1 : ∀ (T : Nat → tR) (B : tR), T t 2 0 = nI (0 + l0.length) → RS f sz s1 t B → Wp (d - 1) 39 0 (ment 39 [.ref 55, .int 1]) [] (N, H3 g (cc A T K B E l G) Qm) (PQ g N A K E l G Qm f sz t T 1 (0 + l0.length) (false, s2, l1)) := fun T B h1 h2 => by
    rw [← hr1]
    exact x_39 hF ht hz hby (p := 1) (by decide) (by omega) q0.2.1 (by omega) h1 h2
  show Wp _ 38 0 [.ref 55, .ref (lb t), .null] [] _ _
  refine W_aload_n d_38_0 rfl (by decide) ?_
  refine W_aload_n d_38_1 rfl (lb_ne (by assumption)) ?_
  refine W_putf d_38_2 o_38 k_3_19 rfl (Nat.le_of_ble_eq_true rfl) (mput_lb ht) (ms_rr6 ht) ?_
  refine W_aload_n d_38_5 rfl (by decide) ?_
  refine W_getf d_38_6 o_38 k_3_19 rfl rfl ?_
  show Wp _ _ _ _ (lref (u2 B 1 5 (nI t) 1 5) :: _) _ _
  rw [u2_at, lref_nI ht]
  refine W_callV d_38_9 o_38 (Or.inl k_3_23) (by omega) (x_16 ht) rfl (mrecv_of (h_law (by assumption)) o_16.symm) rfl (Nat.le_of_ble_eq_true rfl) ?_
  refine W_aload_n d_38_12 rfl (by decide) ?_
  refine W_iconst d_38_13 (v := 0) (by decide) ?_
  refine W_putf d_38_14 o_38 k_3_28 rfl (Nat.le_of_ble_eq_true rfl) rfl ms_rr2 ?_
  have hT0 : u3 T t 2 0 0 t 2 0 = nI 0 := (u3_ap _ _ _ _ _ _ _ _).trans (if_pos ⟨rfl, rfl, rfl⟩)
  have g0 : u2 (u2 B 1 5 (nI t)) 1 1 0 0 = f := (u2_row (by decide)).trans ((u2_row (by decide)).trans b0)
  have g1 : u2 (u2 B 1 5 (nI t)) 1 1 0 1 0 = nI sz := (u2_ot (by decide)).trans ((u2_ot (by decide)).trans b1)
  have g2 : u2 (u2 B 1 5 (nI t)) 1 1 0 1 1 = nI 0 := u2_at
  have g5 : u2 (u2 B 1 5 (nI t)) 1 1 0 1 5 = nI t := (u2_ot (by decide)).trans u2_at
  refine W_aload_n d_38_17 rfl (by decide) ?_
  refine W_callVQ d_38_18 o_38 (Or.inl k_3_31) (by omega) (x_47g hz hby (by omega) (Nat.zero_le _) g0 g1 g2 g5) rfl (mrecv_of rfl o_47.symm) rfl (Nat.le_of_ble_eq_true rfl) ?_
  rintro _ _ ⟨rfl, B2, hB2, rfl⟩
  refine W_iconst d_38_21 (v := 0) (by decide) ?_
  refine W_istore_n d_38_22 rfl ?_
  refine W_iload_n d_38_23 rfl ?_
  refine W_iconst d_38_24 (v := 3) (by decide) ?_
  refine W_icmp_ge (tgt := 47) d_38_25 (by decide) (fun h25 => absurd h25 (by decide)) (fun _ => ?_)
  refine W_aload_n d_38_28 rfl (by decide) ?_
  refine W_iload_n d_38_29 rfl ?_
  refine W_callVQ d_38_30 o_38 (Or.inl k_3_34) (by omega) (hl0 _ _ hT0 hB2) rfl (mrecv_of rfl o_39.symm) rfl (Nat.le_of_ble_eq_true rfl) ?_
  rintro _ _ ⟨B0x, T0, rfl, rfl, a0, c0, e0, f0, g0⟩
  show Wp _ _ _ _ (.int 1 :: _) _ _
  have k0 : RS f sz s1 t B0x ∧ LA ((u3 T t 2 0 0) t) 0 l0 (T0 t) ∧ T0 t 1 = va_up ((u3 T t 2 0 0) t 1) 1 (nI (0 + l0.length)) := g0 rfl
  refine W_if_ne (tgt := 41) d_38_33 (by decide) (fun _ => ?_) (fun h33 => absurd h33 (by decide))
  refine W_iinc (v := 1) d_38_41 rfl (by decide) rfl ?_
  rw [show ((0 + 1 : Int32)) = 1 from by decide]
  refine W_goto (tgt := 23) d_38_44 (by decide) ?_
  refine W_iload_n d_38_23 rfl ?_
  refine W_iconst d_38_24 (v := 3) (by decide) ?_
  refine W_icmp_ge (tgt := 47) d_38_25 (by decide) (fun h25 => absurd h25 (by decide)) (fun _ => ?_)
  refine W_aload_n d_38_28 rfl (by decide) ?_
  refine W_iload_n d_38_29 rfl ?_
  refine W_callVQ d_38_30 o_38 (Or.inl k_3_34) (by omega) (hl1 _ _ k0.2.1.1 k0.1) rfl (mrecv_of rfl o_39.symm) rfl (Nat.le_of_ble_eq_true rfl) ?_
  rintro _ _ ⟨B1x, T1, rfl, rfl, a1, c1, e1, f1, g1⟩
  show Wp _ _ _ _ (.int 0 :: _) _ _
  refine W_if_ne (tgt := 41) d_38_33 (by decide) (fun h33 => absurd h33 (by decide)) (fun _ => ?_)
  refine W_aload_n d_38_36 rfl (by decide) ?_
  refine W_getf d_38_37 o_38 k_3_38 rfl rfl ?_
  rw [e1]
  refine W_iret d_38_40 rt_38 rfl ?_
  exact ⟨B1x, T1, rfl, rfl, fun i hi => (a1 i hi).trans ((a0 i hi).trans (u3_oth hi)), (f1.trans (f0.trans (congrFun (u3_rne (by decide)) 0)))⟩
theorem x_38_2 {F : Nat} (hF : 1000 ≤ F) (ht : t < 6) (hz : sz ≤ 160) (hby : ∀ k, k < sz → 0 ≤ f k ∧ f k ≤ 255) {d : Nat} {T : Nat → tR} {B : tR} {s1 s2 s3 : Nat} {l0 l1 l2 : List Int32} (hd : 74 ≤ d) (b0 : B 0 = f) (b1 : B 1 0 = nI sz) (hr0 : pprt f sz F 0 (tst f sz 0) = (true, s1, l0)) (hr1 : pprt f sz F 1 s1 = (true, s2, l1)) (hr2 : pprt f sz F 2 s2 = (false, s3, l2)) : Wp d 38 0 (ment 38 [.ref 55, .ref (lb t)]) [] (N, H3 g (cc A T K B E l G) Qm) (PR g N A K E l G Qm (nI s3) (fun T' => (∀ i, ¬ i = t → T' i = T i) ∧ T' t 1 0 = T t 1 0)) := by
  have hs0 : tst f sz 0 ≤ sz := (tst_b (Nat.zero_le _)).2
  have q0 := pprt_ok (p := 0) (by decide) hs0 hr0
  have hl0 : ∀ (T : Nat → tR) (B : tR), T t 2 0 = nI 0 → RS f sz (tst f sz 0) t B → Wp (d - 1) 39 0 (ment 39 [.ref 55, .int 0]) [] (N, H3 g (cc A T K B E l G) Qm) (PQ g N A K E l G Qm f sz t T 0 0 (true, s1, l0)) := fun T B h1 h2 => by
    rw [← hr0]
    exact x_39 hF ht hz hby (p := 0) (by decide) (by omega) hs0 (by omega) h1 h2
  have q1 := pprt_ok (p := 1) (by decide) q0.2.1 hr1
  have hl1 : ∀ (T : Nat → tR) (B : tR), T t 2 0 = nI (0 + l0.length) → RS f sz s1 t B → Wp (d - 1) 39 0 (ment 39 [.ref 55, .int 1]) [] (N, H3 g (cc A T K B E l G) Qm) (PQ g N A K E l G Qm f sz t T 1 (0 + l0.length) (true, s2, l1)) := fun T B h1 h2 => by
    rw [← hr1]
    exact x_39 hF ht hz hby (p := 1) (by decide) (by omega) q0.2.1 (by omega) h1 h2
  have hl2 : ∀ (T : Nat → tR) (B : tR), T t 2 0 = nI (0 + l0.length + l1.length) → RS f sz s2 t B → Wp (d - 1) 39 0 (ment 39 [.ref 55, .int 2]) [] (N, H3 g (cc A T K B E l G) Qm) (PQ g N A K E l G Qm f sz t T 2 (0 + l0.length + l1.length) (false, s3, l2)) := fun T B h1 h2 => by
    rw [← hr2]
    exact x_39 hF ht hz hby (p := 2) (by decide) (by omega) q1.2.1 (by omega) h1 h2
  show Wp _ 38 0 [.ref 55, .ref (lb t), .null] [] _ _
  refine W_aload_n d_38_0 rfl (by decide) ?_
  refine W_aload_n d_38_1 rfl (lb_ne (by assumption)) ?_
  refine W_putf d_38_2 o_38 k_3_19 rfl (Nat.le_of_ble_eq_true rfl) (mput_lb ht) (ms_rr6 ht) ?_
  refine W_aload_n d_38_5 rfl (by decide) ?_
  refine W_getf d_38_6 o_38 k_3_19 rfl rfl ?_
  show Wp _ _ _ _ (lref (u2 B 1 5 (nI t) 1 5) :: _) _ _
  rw [u2_at, lref_nI ht]
  refine W_callV d_38_9 o_38 (Or.inl k_3_23) (by omega) (x_16 ht) rfl (mrecv_of (h_law (by assumption)) o_16.symm) rfl (Nat.le_of_ble_eq_true rfl) ?_
  refine W_aload_n d_38_12 rfl (by decide) ?_
  refine W_iconst d_38_13 (v := 0) (by decide) ?_
  refine W_putf d_38_14 o_38 k_3_28 rfl (Nat.le_of_ble_eq_true rfl) rfl ms_rr2 ?_
  have hT0 : u3 T t 2 0 0 t 2 0 = nI 0 := (u3_ap _ _ _ _ _ _ _ _).trans (if_pos ⟨rfl, rfl, rfl⟩)
  have g0 : u2 (u2 B 1 5 (nI t)) 1 1 0 0 = f := (u2_row (by decide)).trans ((u2_row (by decide)).trans b0)
  have g1 : u2 (u2 B 1 5 (nI t)) 1 1 0 1 0 = nI sz := (u2_ot (by decide)).trans ((u2_ot (by decide)).trans b1)
  have g2 : u2 (u2 B 1 5 (nI t)) 1 1 0 1 1 = nI 0 := u2_at
  have g5 : u2 (u2 B 1 5 (nI t)) 1 1 0 1 5 = nI t := (u2_ot (by decide)).trans u2_at
  refine W_aload_n d_38_17 rfl (by decide) ?_
  refine W_callVQ d_38_18 o_38 (Or.inl k_3_31) (by omega) (x_47g hz hby (by omega) (Nat.zero_le _) g0 g1 g2 g5) rfl (mrecv_of rfl o_47.symm) rfl (Nat.le_of_ble_eq_true rfl) ?_
  rintro _ _ ⟨rfl, B2, hB2, rfl⟩
  refine W_iconst d_38_21 (v := 0) (by decide) ?_
  refine W_istore_n d_38_22 rfl ?_
  refine W_iload_n d_38_23 rfl ?_
  refine W_iconst d_38_24 (v := 3) (by decide) ?_
  refine W_icmp_ge (tgt := 47) d_38_25 (by decide) (fun h25 => absurd h25 (by decide)) (fun _ => ?_)
  refine W_aload_n d_38_28 rfl (by decide) ?_
  refine W_iload_n d_38_29 rfl ?_
  refine W_callVQ d_38_30 o_38 (Or.inl k_3_34) (by omega) (hl0 _ _ hT0 hB2) rfl (mrecv_of rfl o_39.symm) rfl (Nat.le_of_ble_eq_true rfl) ?_
  rintro _ _ ⟨B0x, T0, rfl, rfl, a0, c0, e0, f0, g0⟩
  show Wp _ _ _ _ (.int 1 :: _) _ _
  have k0 : RS f sz s1 t B0x ∧ LA ((u3 T t 2 0 0) t) 0 l0 (T0 t) ∧ T0 t 1 = va_up ((u3 T t 2 0 0) t 1) 1 (nI (0 + l0.length)) := g0 rfl
  refine W_if_ne (tgt := 41) d_38_33 (by decide) (fun _ => ?_) (fun h33 => absurd h33 (by decide))
  refine W_iinc (v := 1) d_38_41 rfl (by decide) rfl ?_
  rw [show ((0 + 1 : Int32)) = 1 from by decide]
  refine W_goto (tgt := 23) d_38_44 (by decide) ?_
  refine W_iload_n d_38_23 rfl ?_
  refine W_iconst d_38_24 (v := 3) (by decide) ?_
  refine W_icmp_ge (tgt := 47) d_38_25 (by decide) (fun h25 => absurd h25 (by decide)) (fun _ => ?_)
  refine W_aload_n d_38_28 rfl (by decide) ?_
  refine W_iload_n d_38_29 rfl ?_
  refine W_callVQ d_38_30 o_38 (Or.inl k_3_34) (by omega) (hl1 _ _ k0.2.1.1 k0.1) rfl (mrecv_of rfl o_39.symm) rfl (Nat.le_of_ble_eq_true rfl) ?_
  rintro _ _ ⟨B1x, T1, rfl, rfl, a1, c1, e1, f1, g1⟩
  show Wp _ _ _ _ (.int 1 :: _) _ _
  have k1 : RS f sz s2 t B1x ∧ LA (T0 t) (0 + l0.length) l1 (T1 t) ∧ T1 t 1 = va_up (T0 t 1) 2 (nI ((0 + l0.length) + l1.length)) := g1 rfl
  refine W_if_ne (tgt := 41) d_38_33 (by decide) (fun _ => ?_) (fun h33 => absurd h33 (by decide))
  refine W_iinc (v := 1) d_38_41 rfl (by decide) rfl ?_
  rw [show ((1 + 1 : Int32)) = 2 from by decide]
  refine W_goto (tgt := 23) d_38_44 (by decide) ?_
  refine W_iload_n d_38_23 rfl ?_
  refine W_iconst d_38_24 (v := 3) (by decide) ?_
  refine W_icmp_ge (tgt := 47) d_38_25 (by decide) (fun h25 => absurd h25 (by decide)) (fun _ => ?_)
  refine W_aload_n d_38_28 rfl (by decide) ?_
  refine W_iload_n d_38_29 rfl ?_
  refine W_callVQ d_38_30 o_38 (Or.inl k_3_34) (by omega) (hl2 _ _ k1.2.1.1 k1.1) rfl (mrecv_of rfl o_39.symm) rfl (Nat.le_of_ble_eq_true rfl) ?_
  rintro _ _ ⟨B2x, T2, rfl, rfl, a2, c2, e2, f2, g2⟩
  show Wp _ _ _ _ (.int 0 :: _) _ _
  refine W_if_ne (tgt := 41) d_38_33 (by decide) (fun h33 => absurd h33 (by decide)) (fun _ => ?_)
  refine W_aload_n d_38_36 rfl (by decide) ?_
  refine W_getf d_38_37 o_38 k_3_38 rfl rfl ?_
  rw [e2]
  refine W_iret d_38_40 rt_38 rfl ?_
  exact ⟨B2x, T2, rfl, rfl, fun i hi => (a2 i hi).trans ((a1 i hi).trans ((a0 i hi).trans (u3_oth hi))), (f2.trans (f1.trans (f0.trans (congrFun (u3_rne (by decide)) 0))))⟩
theorem x_38_3 {F : Nat} (hF : 1000 ≤ F) (ht : t < 6) (hz : sz ≤ 160) (hby : ∀ k, k < sz → 0 ≤ f k ∧ f k ≤ 255) {d : Nat} {T : Nat → tR} {B : tR} {s1 s2 s3 : Nat} {l0 l1 l2 : List Int32} (hd : 74 ≤ d) (b0 : B 0 = f) (b1 : B 1 0 = nI sz) (hr0 : pprt f sz F 0 (tst f sz 0) = (true, s1, l0)) (hr1 : pprt f sz F 1 s1 = (true, s2, l1)) (hr2 : pprt f sz F 2 s2 = (true, s3, l2)) (he : tok f sz s3 = -1) : Wp d 38 0 (ment 38 [.ref 55, .ref (lb t)]) [] (N, H3 g (cc A T K B E l G) Qm) (PR g N A K E l G Qm (-1) (fun T' => (∀ i, ¬ i = t → T' i = T i) ∧ T' t 1 0 = T t 1 0 ∧ LA (T t) 0 (l0 ++ l1 ++ l2) (T' t) ∧ T' t 1 1 = nI l0.length ∧ T' t 1 2 = nI (l0.length + l1.length) ∧ T' t 1 3 = nI (l0.length + l1.length + l2.length))) := by
  have hs0 : tst f sz 0 ≤ sz := (tst_b (Nat.zero_le _)).2
  have q0 := pprt_ok (p := 0) (by decide) hs0 hr0
  have hl0 : ∀ (T : Nat → tR) (B : tR), T t 2 0 = nI 0 → RS f sz (tst f sz 0) t B → Wp (d - 1) 39 0 (ment 39 [.ref 55, .int 0]) [] (N, H3 g (cc A T K B E l G) Qm) (PQ g N A K E l G Qm f sz t T 0 0 (true, s1, l0)) := fun T B h1 h2 => by
    rw [← hr0]
    exact x_39 hF ht hz hby (p := 0) (by decide) (by omega) hs0 (by omega) h1 h2
  have q1 := pprt_ok (p := 1) (by decide) q0.2.1 hr1
  have hl1 : ∀ (T : Nat → tR) (B : tR), T t 2 0 = nI (0 + l0.length) → RS f sz s1 t B → Wp (d - 1) 39 0 (ment 39 [.ref 55, .int 1]) [] (N, H3 g (cc A T K B E l G) Qm) (PQ g N A K E l G Qm f sz t T 1 (0 + l0.length) (true, s2, l1)) := fun T B h1 h2 => by
    rw [← hr1]
    exact x_39 hF ht hz hby (p := 1) (by decide) (by omega) q0.2.1 (by omega) h1 h2
  have q2 := pprt_ok (p := 2) (by decide) q1.2.1 hr2
  have hl2 : ∀ (T : Nat → tR) (B : tR), T t 2 0 = nI (0 + l0.length + l1.length) → RS f sz s2 t B → Wp (d - 1) 39 0 (ment 39 [.ref 55, .int 2]) [] (N, H3 g (cc A T K B E l G) Qm) (PQ g N A K E l G Qm f sz t T 2 (0 + l0.length + l1.length) (true, s3, l2)) := fun T B h1 h2 => by
    rw [← hr2]
    exact x_39 hF ht hz hby (p := 2) (by decide) (by omega) q1.2.1 (by omega) h1 h2
  show Wp _ 38 0 [.ref 55, .ref (lb t), .null] [] _ _
  refine W_aload_n d_38_0 rfl (by decide) ?_
  refine W_aload_n d_38_1 rfl (lb_ne (by assumption)) ?_
  refine W_putf d_38_2 o_38 k_3_19 rfl (Nat.le_of_ble_eq_true rfl) (mput_lb ht) (ms_rr6 ht) ?_
  refine W_aload_n d_38_5 rfl (by decide) ?_
  refine W_getf d_38_6 o_38 k_3_19 rfl rfl ?_
  show Wp _ _ _ _ (lref (u2 B 1 5 (nI t) 1 5) :: _) _ _
  rw [u2_at, lref_nI ht]
  refine W_callV d_38_9 o_38 (Or.inl k_3_23) (by omega) (x_16 ht) rfl (mrecv_of (h_law (by assumption)) o_16.symm) rfl (Nat.le_of_ble_eq_true rfl) ?_
  refine W_aload_n d_38_12 rfl (by decide) ?_
  refine W_iconst d_38_13 (v := 0) (by decide) ?_
  refine W_putf d_38_14 o_38 k_3_28 rfl (Nat.le_of_ble_eq_true rfl) rfl ms_rr2 ?_
  have hT0 : u3 T t 2 0 0 t 2 0 = nI 0 := (u3_ap _ _ _ _ _ _ _ _).trans (if_pos ⟨rfl, rfl, rfl⟩)
  have g0 : u2 (u2 B 1 5 (nI t)) 1 1 0 0 = f := (u2_row (by decide)).trans ((u2_row (by decide)).trans b0)
  have g1 : u2 (u2 B 1 5 (nI t)) 1 1 0 1 0 = nI sz := (u2_ot (by decide)).trans ((u2_ot (by decide)).trans b1)
  have g2 : u2 (u2 B 1 5 (nI t)) 1 1 0 1 1 = nI 0 := u2_at
  have g5 : u2 (u2 B 1 5 (nI t)) 1 1 0 1 5 = nI t := (u2_ot (by decide)).trans u2_at
  refine W_aload_n d_38_17 rfl (by decide) ?_
  refine W_callVQ d_38_18 o_38 (Or.inl k_3_31) (by omega) (x_47g hz hby (by omega) (Nat.zero_le _) g0 g1 g2 g5) rfl (mrecv_of rfl o_47.symm) rfl (Nat.le_of_ble_eq_true rfl) ?_
  rintro _ _ ⟨rfl, B2, hB2, rfl⟩
  refine W_iconst d_38_21 (v := 0) (by decide) ?_
  refine W_istore_n d_38_22 rfl ?_
  refine W_iload_n d_38_23 rfl ?_
  refine W_iconst d_38_24 (v := 3) (by decide) ?_
  refine W_icmp_ge (tgt := 47) d_38_25 (by decide) (fun h25 => absurd h25 (by decide)) (fun _ => ?_)
  refine W_aload_n d_38_28 rfl (by decide) ?_
  refine W_iload_n d_38_29 rfl ?_
  refine W_callVQ d_38_30 o_38 (Or.inl k_3_34) (by omega) (hl0 _ _ hT0 hB2) rfl (mrecv_of rfl o_39.symm) rfl (Nat.le_of_ble_eq_true rfl) ?_
  rintro _ _ ⟨B0x, T0, rfl, rfl, a0, c0, e0, f0, g0⟩
  show Wp _ _ _ _ (.int 1 :: _) _ _
  have k0 : RS f sz s1 t B0x ∧ LA ((u3 T t 2 0 0) t) 0 l0 (T0 t) ∧ T0 t 1 = va_up ((u3 T t 2 0 0) t 1) 1 (nI (0 + l0.length)) := g0 rfl
  refine W_if_ne (tgt := 41) d_38_33 (by decide) (fun _ => ?_) (fun h33 => absurd h33 (by decide))
  refine W_iinc (v := 1) d_38_41 rfl (by decide) rfl ?_
  rw [show ((0 + 1 : Int32)) = 1 from by decide]
  refine W_goto (tgt := 23) d_38_44 (by decide) ?_
  refine W_iload_n d_38_23 rfl ?_
  refine W_iconst d_38_24 (v := 3) (by decide) ?_
  refine W_icmp_ge (tgt := 47) d_38_25 (by decide) (fun h25 => absurd h25 (by decide)) (fun _ => ?_)
  refine W_aload_n d_38_28 rfl (by decide) ?_
  refine W_iload_n d_38_29 rfl ?_
  refine W_callVQ d_38_30 o_38 (Or.inl k_3_34) (by omega) (hl1 _ _ k0.2.1.1 k0.1) rfl (mrecv_of rfl o_39.symm) rfl (Nat.le_of_ble_eq_true rfl) ?_
  rintro _ _ ⟨B1x, T1, rfl, rfl, a1, c1, e1, f1, g1⟩
  show Wp _ _ _ _ (.int 1 :: _) _ _
  have k1 : RS f sz s2 t B1x ∧ LA (T0 t) (0 + l0.length) l1 (T1 t) ∧ T1 t 1 = va_up (T0 t 1) 2 (nI ((0 + l0.length) + l1.length)) := g1 rfl
  refine W_if_ne (tgt := 41) d_38_33 (by decide) (fun _ => ?_) (fun h33 => absurd h33 (by decide))
  refine W_iinc (v := 1) d_38_41 rfl (by decide) rfl ?_
  rw [show ((1 + 1 : Int32)) = 2 from by decide]
  refine W_goto (tgt := 23) d_38_44 (by decide) ?_
  refine W_iload_n d_38_23 rfl ?_
  refine W_iconst d_38_24 (v := 3) (by decide) ?_
  refine W_icmp_ge (tgt := 47) d_38_25 (by decide) (fun h25 => absurd h25 (by decide)) (fun _ => ?_)
  refine W_aload_n d_38_28 rfl (by decide) ?_
  refine W_iload_n d_38_29 rfl ?_
  refine W_callVQ d_38_30 o_38 (Or.inl k_3_34) (by omega) (hl2 _ _ k1.2.1.1 k1.1) rfl (mrecv_of rfl o_39.symm) rfl (Nat.le_of_ble_eq_true rfl) ?_
  rintro _ _ ⟨B2x, T2, rfl, rfl, a2, c2, e2, f2, g2⟩
  show Wp _ _ _ _ (.int 1 :: _) _ _
  have k2 : RS f sz s3 t B2x ∧ LA (T1 t) (0 + l0.length + l1.length) l2 (T2 t) ∧ T2 t 1 = va_up (T1 t 1) 3 (nI ((0 + l0.length + l1.length) + l2.length)) := g2 rfl
  refine W_if_ne (tgt := 41) d_38_33 (by decide) (fun _ => ?_) (fun h33 => absurd h33 (by decide))
  refine W_iinc (v := 1) d_38_41 rfl (by decide) rfl ?_
  rw [show ((2 + 1 : Int32)) = 3 from by decide]
  refine W_goto (tgt := 23) d_38_44 (by decide) ?_
  refine W_iload_n d_38_23 rfl ?_
  refine W_iconst d_38_24 (v := 3) (by decide) ?_
  refine W_icmp_ge (tgt := 47) d_38_25 (by decide) (fun _ => ?_) (fun h25 => absurd h25 (by decide))
  refine W_aload_n d_38_47 rfl (by decide) ?_
  refine W_getf d_38_48 o_38 k_3_41 rfl rfl ?_
  rw [k2.1.2.2.2.2.1]
  refine W_iconst d_38_51 (v := (-1)) (by decide) ?_
  refine W_icmp_ne (tgt := 59) d_38_52 (by decide) (fun h52 => absurd he h52) (fun h52 => ?_)
  refine W_iconst d_38_55 (v := (-1)) (by decide) ?_
  refine W_goto (tgt := 63) d_38_56 (by decide) ?_
  refine W_iret d_38_63 rt_38 rfl ?_
  have e1 : T2 t 1 1 = nI l0.length := by
    rw [k2.2.2, va_oth _ _ (by decide), k1.2.2, va_oth _ _ (by decide), k0.2.2, va_same, Nat.zero_add]
  have e2 : T2 t 1 2 = nI (l0.length + l1.length) := by
    rw [k2.2.2, va_oth _ _ (by decide), k1.2.2, va_same, Nat.zero_add]
  have e3 : T2 t 1 3 = nI (l0.length + l1.length + l2.length) := by
    rw [k2.2.2, va_same, Nat.zero_add]
  have eL := k0.2.1.app (k1.2.1.app k2.2.1)
  rw [← List.append_assoc] at eL
  exact ⟨B2x, T2, rfl, rfl, fun i hi => (a2 i hi).trans ((a1 i hi).trans ((a0 i hi).trans (u3_oth hi))), (f2.trans (f1.trans (f0.trans (congrFun (u3_rne (by decide)) 0)))), eL.base, e1, e2, e3⟩
theorem x_38_4 {F : Nat} (hF : 1000 ≤ F) (ht : t < 6) (hz : sz ≤ 160) (hby : ∀ k, k < sz → 0 ≤ f k ∧ f k ≤ 255) {d : Nat} {T : Nat → tR} {B : tR} {s1 s2 s3 : Nat} {l0 l1 l2 : List Int32} (hd : 74 ≤ d) (b0 : B 0 = f) (b1 : B 1 0 = nI sz) (hr0 : pprt f sz F 0 (tst f sz 0) = (true, s1, l0)) (hr1 : pprt f sz F 1 s1 = (true, s2, l1)) (hr2 : pprt f sz F 2 s2 = (true, s3, l2)) (he : ¬ tok f sz s3 = -1) : Wp d 38 0 (ment 38 [.ref 55, .ref (lb t)]) [] (N, H3 g (cc A T K B E l G) Qm) (PR g N A K E l G Qm (nI s3) (fun T' => (∀ i, ¬ i = t → T' i = T i) ∧ T' t 1 0 = T t 1 0)) := by
  have hs0 : tst f sz 0 ≤ sz := (tst_b (Nat.zero_le _)).2
  have q0 := pprt_ok (p := 0) (by decide) hs0 hr0
  have hl0 : ∀ (T : Nat → tR) (B : tR), T t 2 0 = nI 0 → RS f sz (tst f sz 0) t B → Wp (d - 1) 39 0 (ment 39 [.ref 55, .int 0]) [] (N, H3 g (cc A T K B E l G) Qm) (PQ g N A K E l G Qm f sz t T 0 0 (true, s1, l0)) := fun T B h1 h2 => by
    rw [← hr0]
    exact x_39 hF ht hz hby (p := 0) (by decide) (by omega) hs0 (by omega) h1 h2
  have q1 := pprt_ok (p := 1) (by decide) q0.2.1 hr1
  have hl1 : ∀ (T : Nat → tR) (B : tR), T t 2 0 = nI (0 + l0.length) → RS f sz s1 t B → Wp (d - 1) 39 0 (ment 39 [.ref 55, .int 1]) [] (N, H3 g (cc A T K B E l G) Qm) (PQ g N A K E l G Qm f sz t T 1 (0 + l0.length) (true, s2, l1)) := fun T B h1 h2 => by
    rw [← hr1]
    exact x_39 hF ht hz hby (p := 1) (by decide) (by omega) q0.2.1 (by omega) h1 h2
  have q2 := pprt_ok (p := 2) (by decide) q1.2.1 hr2
  have hl2 : ∀ (T : Nat → tR) (B : tR), T t 2 0 = nI (0 + l0.length + l1.length) → RS f sz s2 t B → Wp (d - 1) 39 0 (ment 39 [.ref 55, .int 2]) [] (N, H3 g (cc A T K B E l G) Qm) (PQ g N A K E l G Qm f sz t T 2 (0 + l0.length + l1.length) (true, s3, l2)) := fun T B h1 h2 => by
    rw [← hr2]
    exact x_39 hF ht hz hby (p := 2) (by decide) (by omega) q1.2.1 (by omega) h1 h2
  show Wp _ 38 0 [.ref 55, .ref (lb t), .null] [] _ _
  refine W_aload_n d_38_0 rfl (by decide) ?_
  refine W_aload_n d_38_1 rfl (lb_ne (by assumption)) ?_
  refine W_putf d_38_2 o_38 k_3_19 rfl (Nat.le_of_ble_eq_true rfl) (mput_lb ht) (ms_rr6 ht) ?_
  refine W_aload_n d_38_5 rfl (by decide) ?_
  refine W_getf d_38_6 o_38 k_3_19 rfl rfl ?_
  show Wp _ _ _ _ (lref (u2 B 1 5 (nI t) 1 5) :: _) _ _
  rw [u2_at, lref_nI ht]
  refine W_callV d_38_9 o_38 (Or.inl k_3_23) (by omega) (x_16 ht) rfl (mrecv_of (h_law (by assumption)) o_16.symm) rfl (Nat.le_of_ble_eq_true rfl) ?_
  refine W_aload_n d_38_12 rfl (by decide) ?_
  refine W_iconst d_38_13 (v := 0) (by decide) ?_
  refine W_putf d_38_14 o_38 k_3_28 rfl (Nat.le_of_ble_eq_true rfl) rfl ms_rr2 ?_
  have hT0 : u3 T t 2 0 0 t 2 0 = nI 0 := (u3_ap _ _ _ _ _ _ _ _).trans (if_pos ⟨rfl, rfl, rfl⟩)
  have g0 : u2 (u2 B 1 5 (nI t)) 1 1 0 0 = f := (u2_row (by decide)).trans ((u2_row (by decide)).trans b0)
  have g1 : u2 (u2 B 1 5 (nI t)) 1 1 0 1 0 = nI sz := (u2_ot (by decide)).trans ((u2_ot (by decide)).trans b1)
  have g2 : u2 (u2 B 1 5 (nI t)) 1 1 0 1 1 = nI 0 := u2_at
  have g5 : u2 (u2 B 1 5 (nI t)) 1 1 0 1 5 = nI t := (u2_ot (by decide)).trans u2_at
  refine W_aload_n d_38_17 rfl (by decide) ?_
  refine W_callVQ d_38_18 o_38 (Or.inl k_3_31) (by omega) (x_47g hz hby (by omega) (Nat.zero_le _) g0 g1 g2 g5) rfl (mrecv_of rfl o_47.symm) rfl (Nat.le_of_ble_eq_true rfl) ?_
  rintro _ _ ⟨rfl, B2, hB2, rfl⟩
  refine W_iconst d_38_21 (v := 0) (by decide) ?_
  refine W_istore_n d_38_22 rfl ?_
  refine W_iload_n d_38_23 rfl ?_
  refine W_iconst d_38_24 (v := 3) (by decide) ?_
  refine W_icmp_ge (tgt := 47) d_38_25 (by decide) (fun h25 => absurd h25 (by decide)) (fun _ => ?_)
  refine W_aload_n d_38_28 rfl (by decide) ?_
  refine W_iload_n d_38_29 rfl ?_
  refine W_callVQ d_38_30 o_38 (Or.inl k_3_34) (by omega) (hl0 _ _ hT0 hB2) rfl (mrecv_of rfl o_39.symm) rfl (Nat.le_of_ble_eq_true rfl) ?_
  rintro _ _ ⟨B0x, T0, rfl, rfl, a0, c0, e0, f0, g0⟩
  show Wp _ _ _ _ (.int 1 :: _) _ _
  have k0 : RS f sz s1 t B0x ∧ LA ((u3 T t 2 0 0) t) 0 l0 (T0 t) ∧ T0 t 1 = va_up ((u3 T t 2 0 0) t 1) 1 (nI (0 + l0.length)) := g0 rfl
  refine W_if_ne (tgt := 41) d_38_33 (by decide) (fun _ => ?_) (fun h33 => absurd h33 (by decide))
  refine W_iinc (v := 1) d_38_41 rfl (by decide) rfl ?_
  rw [show ((0 + 1 : Int32)) = 1 from by decide]
  refine W_goto (tgt := 23) d_38_44 (by decide) ?_
  refine W_iload_n d_38_23 rfl ?_
  refine W_iconst d_38_24 (v := 3) (by decide) ?_
  refine W_icmp_ge (tgt := 47) d_38_25 (by decide) (fun h25 => absurd h25 (by decide)) (fun _ => ?_)
  refine W_aload_n d_38_28 rfl (by decide) ?_
  refine W_iload_n d_38_29 rfl ?_
  refine W_callVQ d_38_30 o_38 (Or.inl k_3_34) (by omega) (hl1 _ _ k0.2.1.1 k0.1) rfl (mrecv_of rfl o_39.symm) rfl (Nat.le_of_ble_eq_true rfl) ?_
  rintro _ _ ⟨B1x, T1, rfl, rfl, a1, c1, e1, f1, g1⟩
  show Wp _ _ _ _ (.int 1 :: _) _ _
  have k1 : RS f sz s2 t B1x ∧ LA (T0 t) (0 + l0.length) l1 (T1 t) ∧ T1 t 1 = va_up (T0 t 1) 2 (nI ((0 + l0.length) + l1.length)) := g1 rfl
  refine W_if_ne (tgt := 41) d_38_33 (by decide) (fun _ => ?_) (fun h33 => absurd h33 (by decide))
  refine W_iinc (v := 1) d_38_41 rfl (by decide) rfl ?_
  rw [show ((1 + 1 : Int32)) = 2 from by decide]
  refine W_goto (tgt := 23) d_38_44 (by decide) ?_
  refine W_iload_n d_38_23 rfl ?_
  refine W_iconst d_38_24 (v := 3) (by decide) ?_
  refine W_icmp_ge (tgt := 47) d_38_25 (by decide) (fun h25 => absurd h25 (by decide)) (fun _ => ?_)
  refine W_aload_n d_38_28 rfl (by decide) ?_
  refine W_iload_n d_38_29 rfl ?_
  refine W_callVQ d_38_30 o_38 (Or.inl k_3_34) (by omega) (hl2 _ _ k1.2.1.1 k1.1) rfl (mrecv_of rfl o_39.symm) rfl (Nat.le_of_ble_eq_true rfl) ?_
  rintro _ _ ⟨B2x, T2, rfl, rfl, a2, c2, e2, f2, g2⟩
  show Wp _ _ _ _ (.int 1 :: _) _ _
  have k2 : RS f sz s3 t B2x ∧ LA (T1 t) (0 + l0.length + l1.length) l2 (T2 t) ∧ T2 t 1 = va_up (T1 t 1) 3 (nI ((0 + l0.length + l1.length) + l2.length)) := g2 rfl
  refine W_if_ne (tgt := 41) d_38_33 (by decide) (fun _ => ?_) (fun h33 => absurd h33 (by decide))
  refine W_iinc (v := 1) d_38_41 rfl (by decide) rfl ?_
  rw [show ((2 + 1 : Int32)) = 3 from by decide]
  refine W_goto (tgt := 23) d_38_44 (by decide) ?_
  refine W_iload_n d_38_23 rfl ?_
  refine W_iconst d_38_24 (v := 3) (by decide) ?_
  refine W_icmp_ge (tgt := 47) d_38_25 (by decide) (fun _ => ?_) (fun h25 => absurd h25 (by decide))
  refine W_aload_n d_38_47 rfl (by decide) ?_
  refine W_getf d_38_48 o_38 k_3_41 rfl rfl ?_
  rw [k2.1.2.2.2.2.1]
  refine W_iconst d_38_51 (v := (-1)) (by decide) ?_
  refine W_icmp_ne (tgt := 59) d_38_52 (by decide) (fun h52 => ?_) (fun h52 => absurd h52 he)
  refine W_aload_n d_38_59 rfl (by decide) ?_
  refine W_getf d_38_60 o_38 k_3_38 rfl rfl ?_
  rw [e2]
  refine W_iret d_38_63 rt_38 rfl ?_
  exact ⟨B2x, T2, rfl, rfl, fun i hi => (a2 i hi).trans ((a1 i hi).trans ((a0 i hi).trans (u3_oth hi))), (f2.trans (f1.trans (f0.trans (congrFun (u3_rne (by decide)) 0))))⟩
end
theorem x_87f {g : mG} {N : Nat} {A T K : Nat → tR} {B : tR} {E : Nat → Int32} {l : Int64} {G : tR} {Qm : Nat → mC} {d tc : Nat} (hE : E 1 = nI tc) (h6 : tc = 6) : Ex d 87 [.ref 0] (N, H3 g (cc A T K B E l G) Qm) (some (.int (-4))) (N, H3 g (cc A T K B E l G) Qm) := by
  refine Ex.of ?_
  show Wp _ 87 0 [.ref 0, .null] [] _ _
  refine W_aload_n d_87_0 rfl (by decide) ?_
  refine W_getf d_87_1 o_87 k_6_73 rfl rfl ?_
  rw [hE]
  refine W_aload_n d_87_4 rfl (by decide) ?_
  refine W_getf d_87_5 o_87 k_6_31 rfl rfl ?_
  refine W_alen (n := 6) (v := 6) d_87_8 rfl (by decide) ?_
  refine W_icmp_lt (tgt := 15) d_87_9 (by decide) (fun h9 => absurd h9 (nI_nlt (a := tc) (b := 6) (by omega) (by omega))) (fun h9 => ?_)
  refine W_bipush d_87_12 (v := (-4)) (by decide) ?_
  refine W_iret d_87_14 rt_87 rfl ?_
  exact ⟨rfl, rfl⟩
theorem x_87a {g : mG} {N : Nat} {A T K : Nat → tR} {B : tR} {E : Nat → Int32} {l : Int64} {G : tR} {Qm : Nat → mC} {d tc : Nat} {a : Int32} {X : (Nat → tR) → Prop} (hd : 1 ≤ d) (hE : E 1 = nI tc) (h6 : tc < 6) (ha : ¬ a = -1) (hw : Wp (d - 1) 38 0 (ment 38 [.ref 55, .ref (lb tc)]) [] (N, H3 g (cc A T K B E l G) Qm) (PR g N A K E l G Qm a X)) : Wp d 87 0 (ment 87 [.ref 0]) [] (N, H3 g (cc A T K B E l G) Qm) (fun v M => ∃ B' T', v = some (.int (-100 - a)) ∧ M = (N, H3 g (cc A T' K (u2 B' 1 0 0) E l G) Qm) ∧ X T') := by
  show Wp _ 87 0 [.ref 0, .null] [] _ _
  refine W_aload_n d_87_0 rfl (by decide) ?_
  refine W_getf d_87_1 o_87 k_6_73 rfl rfl ?_
  rw [hE]
  refine W_aload_n d_87_4 rfl (by decide) ?_
  refine W_getf d_87_5 o_87 k_6_31 rfl rfl ?_
  refine W_alen (n := 6) (v := 6) d_87_8 rfl (by decide) ?_
  refine W_icmp_lt (tgt := 15) d_87_9 (by decide) (fun h9 => ?_) (fun h9 => absurd (nI_lt (a := tc) (b := 6) (by omega) (by omega)) h9)
  refine W_aload_n d_87_15 rfl (by decide) ?_
  refine W_getf d_87_16 o_87 k_6_25 rfl rfl ?_
  refine W_aload_n d_87_19 rfl (by decide) ?_
  refine W_getf d_87_20 o_87 k_6_31 rfl rfl ?_
  refine W_aload_n d_87_23 rfl (by decide) ?_
  refine W_getf d_87_24 o_87 k_6_73 rfl rfl ?_
  rw [hE]
  refine W_aald d_87_27 rfl (vp_in_nI (by omega) (by decide)) (txa_v (by omega)) ?_
  refine W_callVQ d_87_28 o_87 (Or.inl k_6_66) (by omega) hw rfl (mrecv_of rfl o_38.symm) rfl (Nat.le_of_ble_eq_true rfl) ?_
  rintro _ _ ⟨B', T', rfl, rfl, hX⟩
  refine W_istore_n d_87_31 rfl ?_
  refine W_aload_n d_87_32 rfl (by decide) ?_
  refine W_getf d_87_33 o_87 k_6_25 rfl rfl ?_
  refine W_callV d_87_36 o_87 (Or.inl k_6_70) (by omega) x_37 rfl (mrecv_of rfl o_37.symm) rfl (Nat.le_of_ble_eq_true rfl) ?_
  refine W_iload_n d_87_39 rfl ?_
  refine W_iconst d_87_40 (v := (-1)) (by decide) ?_
  refine W_icmp_eq (tgt := 49) d_87_41 (by decide) (fun h41 => absurd h41 ha) (fun h41 => ?_)
  refine W_bipush d_87_44 (v := (-100)) (by decide) ?_
  refine W_iload_n d_87_46 rfl ?_
  refine W_isub d_87_47 ?_
  refine W_iret d_87_48 rt_87 rfl ?_
  exact ⟨B', T', rfl, rfl, hX⟩
theorem x_87b {g : mG} {N : Nat} {A T K : Nat → tR} {B : tR} {E : Nat → Int32} {l : Int64} {G : tR} {Qm : Nat → mC} {d tc : Nat} {X : (Nat → tR) → Prop} (hd : 1 ≤ d) (hE : E 1 = nI tc) (h6 : tc < 6)  (hw : Wp (d - 1) 38 0 (ment 38 [.ref 55, .ref (lb tc)]) [] (N, H3 g (cc A T K B E l G) Qm) (PR g N A K E l G Qm (-1) X)) : Wp d 87 0 (ment 87 [.ref 0]) [] (N, H3 g (cc A T K B E l G) Qm) (fun v M => ∃ B' T', v = some (.int (nI tc)) ∧ M = (N, H3 g (cc A T' K (u2 B' 1 0 0) (va_up E 1 (nI (tc + 1))) l G) Qm) ∧ X T') := by
  show Wp _ 87 0 [.ref 0, .null] [] _ _
  refine W_aload_n d_87_0 rfl (by decide) ?_
  refine W_getf d_87_1 o_87 k_6_73 rfl rfl ?_
  rw [hE]
  refine W_aload_n d_87_4 rfl (by decide) ?_
  refine W_getf d_87_5 o_87 k_6_31 rfl rfl ?_
  refine W_alen (n := 6) (v := 6) d_87_8 rfl (by decide) ?_
  refine W_icmp_lt (tgt := 15) d_87_9 (by decide) (fun h9 => ?_) (fun h9 => absurd (nI_lt (a := tc) (b := 6) (by omega) (by omega)) h9)
  refine W_aload_n d_87_15 rfl (by decide) ?_
  refine W_getf d_87_16 o_87 k_6_25 rfl rfl ?_
  refine W_aload_n d_87_19 rfl (by decide) ?_
  refine W_getf d_87_20 o_87 k_6_31 rfl rfl ?_
  refine W_aload_n d_87_23 rfl (by decide) ?_
  refine W_getf d_87_24 o_87 k_6_73 rfl rfl ?_
  rw [hE]
  refine W_aald d_87_27 rfl (vp_in_nI (by omega) (by decide)) (txa_v (by omega)) ?_
  refine W_callVQ d_87_28 o_87 (Or.inl k_6_66) (by omega) hw rfl (mrecv_of rfl o_38.symm) rfl (Nat.le_of_ble_eq_true rfl) ?_
  rintro _ _ ⟨B', T', rfl, rfl, hX⟩
  refine W_istore_n d_87_31 rfl ?_
  refine W_aload_n d_87_32 rfl (by decide) ?_
  refine W_getf d_87_33 o_87 k_6_25 rfl rfl ?_
  refine W_callV d_87_36 o_87 (Or.inl k_6_70) (by omega) x_37 rfl (mrecv_of rfl o_37.symm) rfl (Nat.le_of_ble_eq_true rfl) ?_
  refine W_iload_n d_87_39 rfl ?_
  refine W_iconst d_87_40 (v := (-1)) (by decide) ?_
  refine W_icmp_eq (tgt := 49) d_87_41 (by decide) (fun h41 => ?_) (fun h41 => absurd rfl h41)
  refine W_aload_n d_87_49 rfl (by decide) ?_
  refine W_dup d_87_50 rfl ?_
  refine W_getf d_87_51 o_87 k_6_73 rfl rfl ?_
  rw [hE]
  refine W_iconst d_87_54 (v := 1) (by decide) ?_
  refine W_iadd d_87_55 ?_
  rw [show ((nI tc + 1 : Int32)) = nI (tc + 1) from nI_add tc 1]
  refine W_putf d_87_56 o_87 k_6_73 rfl (Nat.le_of_ble_eq_true rfl) rfl ms_rt6 ?_
  refine W_aload_n d_87_59 rfl (by decide) ?_
  refine W_getf d_87_60 o_87 k_6_73 rfl rfl ?_
  rw [va_same]
  refine W_iconst d_87_63 (v := 1) (by decide) ?_
  refine W_isub d_87_64 ?_
  rw [show (nI (tc + 1) - 1 : Int32) = nI tc from nI_pred tc]
  refine W_iret d_87_65 rt_87 rfl ?_
  exact ⟨B', T', rfl, rfl, hX⟩
