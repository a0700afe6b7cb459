/-! TEXTS: the model's turns over an E (wip/whole/gen79.py) -/
def WE : List Nat := [23, 24, 25, 26, 29, 30, 31]
theorem Sw.we {S S1 : Nat → Int32} (h : Sw S S1 [23, 24, 25, 26]) : Sw S S1 WE := fun c hc => h c (fun q => hc (by unfold WE; simp at q ⊢; omega))
theorem FE.we {tc : Nat} {Y Y1 : tR} {S S1 : Nat → Int32} (h : FE tc [29, 30, 31] Y S Y1 S1) : FE tc WE Y S Y1 S1 := h.up (fun c hc q => hc (by unfold WE; simp at q ⊢; omega))
theorem SH.put {tc : Nat} {H O : List Int32} {Y : tR} {S : Nat → Int32} {v : Int32} (h : SH tc H O Y S) : SH tc H (O ++ [v]) (u2 Y 7 (200 * tc + O.length) v) (va_up S 31 (nI (O.length + 1))) := by
  refine ⟨(va_oth _ _ (by decide)).trans h.1, ?_, (va_oth _ _ (by decide)).trans h.2.2.1, ?_, ?_⟩
  · rw [u2_row (by decide)]
    exact h.2.1
  · rw [va_same, List.length_append, List.length_singleton]
  · rw [u2_rw]
    exact h.2.2.2.2.app
theorem SH.hold {tc : Nat} {H O : List Int32} {Y : tR} {S : Nat → Int32} {v : Int32} (h : SH tc H O Y S) (hv : v = 0 ∨ v = 13 ∨ v = 19) : SH tc (v :: H) O (u2 Y 16 H.length v) (va_up (va_up S 30 (nI (cnt H + 1))) 29 (nI (H.length + 1))) := by
  refine ⟨?_, ?_, ?_, ?_, ?_⟩
  · rw [va_same, List.length_cons]
  · rw [u2_rw]
    exact ⟨va_same _ _ _, h.2.1.u (Nat.le_refl _)⟩
  · rw [va_oth _ _ (by decide), va_same, cnt, if_pos hv]
  · rw [va_oth _ _ (by decide), va_oth _ _ (by decide)]
    exact h.2.2.2.1
  · rw [u2_row (by decide)]
    exact h.2.2.2.2
theorem SH.pop {tc : Nat} {r O : List Int32} {Y : tR} {S : Nat → Int32} (h : SH tc (0 :: r) O Y S) : SH tc r O Y (va_up (va_up S 29 (nI r.length)) 30 (nI (cnt r))) := ⟨(va_oth _ _ (by decide)).trans (va_same _ _ _), h.2.1.2, va_same _ _ _, (va_oth _ _ (by decide)).trans ((va_oth _ _ (by decide)).trans h.2.2.2.1), h.2.2.2.2⟩
theorem unw_top {L a : Int32} {r : List Int32} : ∀ {H : List Int32}, (unw L H).2 = a :: r → rnk a < L := by
  intro H
  induction H with
  | nil => intro h; cases h
  | cons b t ih =>
    intro h
    rw [unw] at h
    by_cases q : L ≤ rnk b
    · rw [if_pos q] at h
      exact ih h
    · rw [if_neg q] at h
      cases h
      exact Int32.not_le.mp q
theorem cdm_num {f : Nat → Int32} {sz s : Nat} (h : tok f sz s = 12) : cdm (opd f sz s) = 100000 + num f (sz - s) s 0 := by
  have h12 := tok_12 h
  have hg := spn_ge pdg f (sz - s) s
  obtain ⟨m, e1, e2⟩ := num_b (f := f) (sz - s) s 0 0 0 rfl (by decide) (by omega)
  have hm : m < 10000 := Nat.lt_of_lt_of_le e2 (by rw [Nat.zero_add]; exact Nat.pow_le_pow_right (n := 10) (by decide) h12.2)
  unfold opd
  rw [if_pos h, e1]
  unfold cdm
  rw [if_neg (nI_pos (by omega)), if_neg (show ¬ (10000 : Int32) ≤ nI m from nI_ge (a := m) (b := 10000) (by omega) (by decide))]
theorem cdm_nam : ∀ t, t ∈ TL → 6 ≤ t ∧ t ≤ 11 → cdm (10000 + t - 6) = t - 6 ∧ mtk t = 2 := by decide +kernel
def TK (f : Nat → Int32) (sz s : Nat) (S : Nat → Int32) : Prop := S 24 = nI s ∧ S 23 = nI (ten f sz s) ∧ S 25 = mtk (tok f sz s) ∧ vok (tok f sz s) (S 26) (num f (sz - s) s 0)
def EI (f : Nat → Int32) (sz tc : Nat) (Y0 : tR) (S0 : Nat → Int32) (H O : List Int32) (s : Nat) (Y : tR) (S : Nat → Int32) : Prop := FE tc WE Y0 S0 Y S ∧ SH tc H O Y S ∧ O.length + H.length ≤ s ∧ s ≤ sz ∧ TK f sz s S
def BH (f : Nat → Int32) (sz tc : Nat) (Y0 : tR) (S0 : Nat → Int32) : Prop := Y0 6 = f ∧ Y0 15 = wdr ∧ S0 11 = nI sz ∧ S0 14 = nI tc ∧ tc < 6 ∧ sz ≤ 160 ∧ ∀ k, k < sz → 0 ≤ f k ∧ f k ≤ 255
def EW (d : Nat) (g : mG) (N : Nat) (P : Nat → mC) (f : Nat → Int32) (sz tc : Nat) (Y0 : tR) (S0 : Nat → Int32) (Q : Option Value → mM → Prop) (w m : Int32) (H O : List Int32) (s : Nat) : Prop := ∀ (Y : tR) (S : Nat → Int32) (x : Value), EI f sz tc Y0 S0 H O s Y S → Wp d 153 18 [.ref 92, .int w, .int m, x] [] (N, H3 g P (mm Y S)) Q
def QF (g : mG) (N : Nat) (P : Nat → mC) (tc : Nat) (Y0 : tR) (S0 : Nat → Int32) (Q : Option Value → mM → Prop) (s : Nat) : Prop := ∀ (Y : tR) (S : Nat → Int32), FE tc WE Y0 S0 Y S → S 24 = nI s → Q (some (.int 0)) (N, H3 g P (mm Y S))
def QT (g : mG) (N : Nat) (P : Nat → mC) (f : Nat → Int32) (sz tc : Nat) (Y0 : tR) (S0 : Nat → Int32) (Q : Option Value → mM → Prop) (O : List Int32) (s : Nat) : Prop := ∀ (Y : tR) (S : Nat → Int32), FE tc WE Y0 S0 Y S → SH tc [] O Y S → O.length ≤ s → s ≤ sz → TK f sz s S → Q (some (.int 1)) (N, H3 g P (mm Y S))
section
variable {d : Nat} {g : mG} {N : Nat} {P : Nat → mC} {f : Nat → Int32} {sz tc : Nat} {Y0 : tR} {S0 : Nat → Int32} {Q : Option Value → mM → Prop}
theorem e_next (hB : BH f sz tc Y0 S0) (hd : 4 ≤ d) {Y : tR} {S : Nat → Int32} {w m : Int32} {x : Value} {H O : List Int32} {s : Nat} (hf : FE tc WE Y0 S0 Y S) (hH : SH tc H O Y S) (h23 : S 23 = nI (ten f sz s)) (hs : s < sz) (hb : O.length + H.length ≤ s + 1) (k : (EW d g N P f sz tc Y0 S0 Q w m H O (nxt f sz s))) : Wp d 153 14 [.ref 92, .int w, .int m, x] [] (N, H3 g P (mm Y S)) Q := by
  have hY6 : Y 6 = f := (hf.1 6 (by decide)).trans hB.1
  have hz := hB.2.2.2.2.2.1
  have nb := nxt_b (f := f) hs
  have hby : ∀ k, k < sz → 0 ≤ Y 6 k ∧ Y 6 k ≤ 255 := by
    rw [hY6]
    exact hB.2.2.2.2.2.2
  rw [← hY6] at h23
  refine W_aload_n d_153_14 rfl (by decide) ?_
  refine W_callVQ d_153_15 o_153 (Or.inl k_7_155) (by omega) (x_145 (by omega) ((hf.1 15 (by decide)).trans hB.2.1) hz hby (ten_c (by omega)).2 h23 ((hf.2.2 11 (by decide)).trans hB.2.2.1)) rfl (mrecv_of rfl o_145.symm) rfl (Nat.le_of_ble_eq_true rfl) ?_
  rintro _ _ ⟨rfl, S2, rfl, r, e1, e2, e3, e4⟩
  rw [hY6] at e1 e2 e3 e4
  exact k _ _ _ ⟨hf.t (FE.s r.we), hH.fr r, by omega, nb.2, e1, e2, e3, e4⟩
theorem t1a (hB : BH f sz tc Y0 S0) (hd : 4 ≤ d) {m : Int32} {H O : List Int32} {s : Nat} (ht12 : tok f sz s = 12) (hK : (EW d g N P f sz tc Y0 S0 Q 0 m (unw 7 H).2 (O ++ [cdm (opd f sz s)] ++ (unw 7 H).1) (nxt f sz s))) : (EW d g N P f sz tc Y0 S0 Q 1 m H O s) := by
  intro Y S x hE
  obtain ⟨hf, hH, hb, hs, hk⟩ := hE
  have htc : S 14 = nI tc := (hf.2.2 14 (by decide)).trans hB.2.2.2.1
  have ht := hB.2.2.2.2.1
  have hz := hB.2.2.2.2.2.1
  have hv : 100000 + S 26 = cdm (opd f sz s) := by rw [cdm_num ht12, hk.2.2.2.2.2 ht12]
  have h25 : S 25 = 1 := by rw [hk.2.2.1, ht12]; decide
  have hlt := tok_v hs ht12 (by decide)
  refine W_iload_n d_153_18 rfl ?_
  refine W_if_eq (tgt := 150) d_153_19 (by decide) (fun h19 => absurd h19 (by decide)) (fun _ => ?_)
  refine W_aload_n d_153_22 rfl (by decide) ?_
  refine W_getf d_153_23 o_153 k_7_122 rfl rfl ?_
  rw [h25]
  refine W_iconst d_153_26 (v := 1) (by decide) ?_
  refine W_icmp_eq (tgt := 38) d_153_27 (by decide) (fun _ => ?_) (fun h27 => absurd h27 (by decide))
  refine W_aload_n d_153_38 rfl (by decide) ?_
  refine W_aload_n d_153_39 rfl (by decide) ?_
  refine W_getf d_153_40 o_153 k_7_122 rfl rfl ?_
  rw [h25]
  refine W_iconst d_153_43 (v := 1) (by decide) ?_
  refine W_icmp_ne (tgt := 57) d_153_44 (by decide) (fun h44 => absurd h44 (by decide)) (fun _ => ?_)
  refine W_ldcI d_153_47 o_153 k_7_158 (v := 100000) (by decide) ?_
  refine W_aload_n d_153_49 rfl (by decide) ?_
  refine W_getf d_153_50 o_153 k_7_125 rfl rfl ?_
  refine W_iadd d_153_53 ?_
  rw [hv]
  refine W_goto (tgt := 61) d_153_54 (by decide) ?_
  refine W_callV d_153_61 o_153 (Or.inl k_7_145) (by omega) (x_147 (n := O.length) htc ht hH.2.2.2.1 (by omega)) rfl (mrecv_of rfl o_147.symm) rfl (Nat.le_of_ble_eq_true rfl) ?_
  refine W_aload_n d_153_64 rfl (by decide) ?_
  refine W_bipush d_153_65 (v := 7) (by decide) ?_
  refine W_callVQ d_153_67 o_153 (Or.inl k_7_152) (by omega) (x_148 (H := H) (O := O ++ [cdm (opd f sz s)]) (by omega) (by decide) ht hH.put ((va_oth _ _ (by decide)).trans htc) (by rw [List.length_append, List.length_singleton]; omega)) rfl (mrecv_of rfl o_148.symm) rfl (Nat.le_of_ble_eq_true rfl) ?_
  rintro _ _ ⟨rfl, Y2, S2, rfl, f2, s2⟩
  refine W_iconst d_153_70 (v := 0) (by decide) ?_
  refine W_istore_n d_153_71 rfl ?_
  refine W_goto (tgt := 14) d_153_72 (by decide) ?_
  have hu := unw_len 7 H
  exact e_next hB hd (hf.t ((FE.y7.t (FE.s (Sw.u (by decide)))).t f2.we)) s2 ((f2.2.2 23 (by decide)).trans ((va_oth _ _ (by decide)).trans hk.2.1)) hlt (by rw [List.length_append, List.length_append, List.length_singleton]; omega) hK
theorem t1b (hB : BH f sz tc Y0 S0) (hd : 4 ≤ d) {m : Int32} {H O : List Int32} {s : Nat} (hnm : 6 ≤ tok f sz s ∧ tok f sz s ≤ 11) (hK : (EW d g N P f sz tc Y0 S0 Q 0 m (unw 7 H).2 (O ++ [cdm (opd f sz s)] ++ (unw 7 H).1) (nxt f sz s))) : (EW d g N P f sz tc Y0 S0 Q 1 m H O s) := by
  intro Y S x hE
  obtain ⟨hf, hH, hb, hs, hk⟩ := hE
  have htc : S 14 = nI tc := (hf.2.2 14 (by decide)).trans hB.2.2.2.1
  have ht := hB.2.2.2.2.1
  have hz := hB.2.2.2.2.2.1
  have hcn := cdm_nam _ (tok_r hs hB.2.2.2.2.2.2) hnm
  have hn12 : ¬ tok f sz s = 12 := fun q => by rw [q] at hnm; exact absurd hnm.2 (by decide)
  have hv : S 26 = cdm (opd f sz s) := by unfold opd; rw [if_neg hn12, hcn.1]; exact hk.2.2.2.2.1 hnm
  have h25 : S 25 = 2 := hk.2.2.1.trans hcn.2
  have hlt := one_lt hs (Or.inr hnm)
  refine W_iload_n d_153_18 rfl ?_
  refine W_if_eq (tgt := 150) d_153_19 (by decide) (fun h19 => absurd h19 (by decide)) (fun _ => ?_)
  refine W_aload_n d_153_22 rfl (by decide) ?_
  refine W_getf d_153_23 o_153 k_7_122 rfl rfl ?_
  rw [h25]
  refine W_iconst d_153_26 (v := 1) (by decide) ?_
  refine W_icmp_eq (tgt := 38) d_153_27 (by decide) (fun h27 => absurd h27 (by decide)) (fun _ => ?_)
  refine W_aload_n d_153_30 rfl (by decide) ?_
  refine W_getf d_153_31 o_153 k_7_122 rfl rfl ?_
  rw [h25]
  refine W_iconst d_153_34 (v := 2) (by decide) ?_
  refine W_icmp_ne (tgt := 75) d_153_35 (by decide) (fun h35 => absurd h35 (by decide)) (fun _ => ?_)
  refine W_aload_n d_153_38 rfl (by decide) ?_
  refine W_aload_n d_153_39 rfl (by decide) ?_
  refine W_getf d_153_40 o_153 k_7_122 rfl rfl ?_
  rw [h25]
  refine W_iconst d_153_43 (v := 1) (by decide) ?_
  refine W_icmp_ne (tgt := 57) d_153_44 (by decide) (fun _ => ?_) (fun h44 => absurd h44 (by decide))
  refine W_aload_n d_153_57 rfl (by decide) ?_
  refine W_getf d_153_58 o_153 k_7_125 rfl rfl ?_
  rw [hv]
  refine W_callV d_153_61 o_153 (Or.inl k_7_145) (by omega) (x_147 (n := O.length) htc ht hH.2.2.2.1 (by omega)) rfl (mrecv_of rfl o_147.symm) rfl (Nat.le_of_ble_eq_true rfl) ?_
  refine W_aload_n d_153_64 rfl (by decide) ?_
  refine W_bipush d_153_65 (v := 7) (by decide) ?_
  refine W_callVQ d_153_67 o_153 (Or.inl k_7_152) (by omega) (x_148 (H := H) (O := O ++ [cdm (opd f sz s)]) (by omega) (by decide) ht hH.put ((va_oth _ _ (by decide)).trans htc) (by rw [List.length_append, List.length_singleton]; omega)) rfl (mrecv_of rfl o_148.symm) rfl (Nat.le_of_ble_eq_true rfl) ?_
  rintro _ _ ⟨rfl, Y2, S2, rfl, f2, s2⟩
  refine W_iconst d_153_70 (v := 0) (by decide) ?_
  refine W_istore_n d_153_71 rfl ?_
  refine W_goto (tgt := 14) d_153_72 (by decide) ?_
  have hu := unw_len 7 H
  exact e_next hB hd (hf.t ((FE.y7.t (FE.s (Sw.u (by decide)))).t f2.we)) s2 ((f2.2.2 23 (by decide)).trans ((va_oth _ _ (by decide)).trans hk.2.1)) hlt (by rw [List.length_append, List.length_append, List.length_singleton]; omega) hK
theorem t2 (hB : BH f sz tc Y0 S0) (hd : 4 ≤ d) {m : Int32} {H O : List Int32} {s : Nat} (hk0 : tok f sz s = 5) (hc : cnt H < 5) (hK : (EW d g N P f sz tc Y0 S0 Q 1 1 (13 :: H) O (nxt f sz s))) : (EW d g N P f sz tc Y0 S0 Q 1 1 H O s) := by
  intro Y S x hE
  obtain ⟨hf, hH, hb, hs, hk⟩ := hE
  have htc : S 14 = nI tc := (hf.2.2 14 (by decide)).trans hB.2.2.2.1
  have ht := hB.2.2.2.2.1
  have hz := hB.2.2.2.2.2.1
  have h25 : S 25 = 6 := by rw [hk.2.2.1, hk0]; decide
  have hlt := tok_v hs hk0 (by decide)
  have hcl := cnt_le H
  refine W_iload_n d_153_18 rfl ?_
  refine W_if_eq (tgt := 150) d_153_19 (by decide) (fun h19 => absurd h19 (by decide)) (fun _ => ?_)
  refine W_aload_n d_153_22 rfl (by decide) ?_
  refine W_getf d_153_23 o_153 k_7_122 rfl rfl ?_
  rw [h25]
  refine W_iconst d_153_26 (v := 1) (by decide) ?_
  refine W_icmp_eq (tgt := 38) d_153_27 (by decide) (fun h27 => absurd h27 (by decide)) (fun _ => ?_)
  refine W_aload_n d_153_30 rfl (by decide) ?_
  refine W_getf d_153_31 o_153 k_7_122 rfl rfl ?_
  rw [h25]
  refine W_iconst d_153_34 (v := 2) (by decide) ?_
  refine W_icmp_ne (tgt := 75) d_153_35 (by decide) (fun _ => ?_) (fun h35 => absurd h35 (by decide))
  refine W_aload_n d_153_75 rfl (by decide) ?_
  refine W_getf d_153_76 o_153 k_7_122 rfl rfl ?_
  rw [h25]
  refine W_bipush d_153_79 (v := 6) (by decide) ?_
  refine W_icmp_ne (tgt := 99) d_153_81 (by decide) (fun h81 => absurd h81 (by decide)) (fun _ => ?_)
  refine W_iload_n d_153_84 rfl ?_
  refine W_if_eq (tgt := 99) d_153_85 (by decide) (fun h85 => absurd h85 (by decide)) (fun _ => ?_)
  refine W_aload_n d_153_88 rfl (by decide) ?_
  refine W_bipush d_153_89 (v := 13) (by decide) ?_
  refine W_callV d_153_91 o_153 (Or.inl k_7_159) (by omega) (x_150 (w := cnt H) (n := H.length) (by omega) hH.2.2.1 hc hH.1 (by omega)) rfl (mrecv_of rfl o_150.symm) rfl (Nat.le_of_ble_eq_true rfl) ?_
  show Wp _ _ _ _ (.int 1 :: _) _ _
  refine W_if_ne (tgt := 14) d_153_94 (by decide) (fun _ => ?_) (fun h94 => absurd h94 (by decide))
  exact e_next hB hd (hf.t (FE.y16.t (FE.s ((Sw.u (by decide)).t (Sw.u (by decide)))))) (hH.hold (by decide)) ((va_oth _ _ (by decide)).trans ((va_oth _ _ (by decide)).trans hk.2.1)) hlt (by rw [List.length_cons]; omega) hK
theorem t2f (hB : BH f sz tc Y0 S0) (hd : 4 ≤ d) {m : Int32} {H O : List Int32} {s : Nat} (hk0 : tok f sz s = 5) (hc : cnt H = 5) (hq : (QF g N P tc Y0 S0 Q s)) : (EW d g N P f sz tc Y0 S0 Q 1 1 H O s) := by
  intro Y S x hE
  obtain ⟨hf, hH, hb, hs, hk⟩ := hE
  have htc : S 14 = nI tc := (hf.2.2 14 (by decide)).trans hB.2.2.2.1
  have ht := hB.2.2.2.2.1
  have hz := hB.2.2.2.2.2.1
  have h25 : S 25 = 6 := by rw [hk.2.2.1, hk0]; decide
  have hlt := tok_v hs hk0 (by decide)
  have hcl := cnt_le H
  refine W_iload_n d_153_18 rfl ?_
  refine W_if_eq (tgt := 150) d_153_19 (by decide) (fun h19 => absurd h19 (by decide)) (fun _ => ?_)
  refine W_aload_n d_153_22 rfl (by decide) ?_
  refine W_getf d_153_23 o_153 k_7_122 rfl rfl ?_
  rw [h25]
  refine W_iconst d_153_26 (v := 1) (by decide) ?_
  refine W_icmp_eq (tgt := 38) d_153_27 (by decide) (fun h27 => absurd h27 (by decide)) (fun _ => ?_)
  refine W_aload_n d_153_30 rfl (by decide) ?_
  refine W_getf d_153_31 o_153 k_7_122 rfl rfl ?_
  rw [h25]
  refine W_iconst d_153_34 (v := 2) (by decide) ?_
  refine W_icmp_ne (tgt := 75) d_153_35 (by decide) (fun _ => ?_) (fun h35 => absurd h35 (by decide))
  refine W_aload_n d_153_75 rfl (by decide) ?_
  refine W_getf d_153_76 o_153 k_7_122 rfl rfl ?_
  rw [h25]
  refine W_bipush d_153_79 (v := 6) (by decide) ?_
  refine W_icmp_ne (tgt := 99) d_153_81 (by decide) (fun h81 => absurd h81 (by decide)) (fun _ => ?_)
  refine W_iload_n d_153_84 rfl ?_
  refine W_if_eq (tgt := 99) d_153_85 (by decide) (fun h85 => absurd h85 (by decide)) (fun _ => ?_)
  refine W_aload_n d_153_88 rfl (by decide) ?_
  refine W_bipush d_153_89 (v := 13) (by decide) ?_
  refine W_callV d_153_91 o_153 (Or.inl k_7_159) (by omega) (x_150f (hH.2.2.1.trans (congrArg nI hc))) rfl (mrecv_of rfl o_150.symm) rfl (Nat.le_of_ble_eq_true rfl) ?_
  show Wp _ _ _ _ (.int 0 :: _) _ _
  refine W_if_ne (tgt := 14) d_153_94 (by decide) (fun h94 => absurd h94 (by decide)) (fun _ => ?_)
  refine W_iconst d_153_97 (v := 0) (by decide) ?_
  refine W_iret d_153_98 rt_153 rfl ?_
  exact hq Y S hf hk.1
theorem t3 (hB : BH f sz tc Y0 S0) (hd : 4 ≤ d) {m : Int32} {H O : List Int32} {s : Nat} (hk0 : tok f sz s = 45) (hc : cnt H < 5) (hK : (EW d g N P f sz tc Y0 S0 Q 1 0 (19 :: H) O (nxt f sz s))) : (EW d g N P f sz tc Y0 S0 Q 1 m H O s) := by
  intro Y S x hE
  obtain ⟨hf, hH, hb, hs, hk⟩ := hE
  have htc : S 14 = nI tc := (hf.2.2 14 (by decide)).trans hB.2.2.2.1
  have ht := hB.2.2.2.2.1
  have hz := hB.2.2.2.2.2.1
  have h25 : S 25 = 45 := by rw [hk.2.2.1, hk0]; decide
  have hlt := tok_v hs hk0 (by decide)
  have hcl := cnt_le H
  refine W_iload_n d_153_18 rfl ?_
  refine W_if_eq (tgt := 150) d_153_19 (by decide) (fun h19 => absurd h19 (by decide)) (fun _ => ?_)
  refine W_aload_n d_153_22 rfl (by decide) ?_
  refine W_getf d_153_23 o_153 k_7_122 rfl rfl ?_
  rw [h25]
  refine W_iconst d_153_26 (v := 1) (by decide) ?_
  refine W_icmp_eq (tgt := 38) d_153_27 (by decide) (fun h27 => absurd h27 (by decide)) (fun _ => ?_)
  refine W_aload_n d_153_30 rfl (by decide) ?_
  refine W_getf d_153_31 o_153 k_7_122 rfl rfl ?_
  rw [h25]
  refine W_iconst d_153_34 (v := 2) (by decide) ?_
  refine W_icmp_ne (tgt := 75) d_153_35 (by decide) (fun _ => ?_) (fun h35 => absurd h35 (by decide))
  refine W_aload_n d_153_75 rfl (by decide) ?_
  refine W_getf d_153_76 o_153 k_7_122 rfl rfl ?_
  rw [h25]
  refine W_bipush d_153_79 (v := 6) (by decide) ?_
  refine W_icmp_ne (tgt := 99) d_153_81 (by decide) (fun _ => ?_) (fun h81 => absurd h81 (by decide))
  refine W_aload_n d_153_99 rfl (by decide) ?_
  refine W_getf d_153_100 o_153 k_7_122 rfl rfl ?_
  rw [h25]
  refine W_bipush d_153_103 (v := 45) (by decide) ?_
  refine W_icmp_ne (tgt := 124) d_153_105 (by decide) (fun h105 => absurd h105 (by decide)) (fun _ => ?_)
  refine W_aload_n d_153_108 rfl (by decide) ?_
  refine W_bipush d_153_109 (v := 19) (by decide) ?_
  refine W_callV d_153_111 o_153 (Or.inl k_7_159) (by omega) (x_150 (w := cnt H) (n := H.length) (by omega) hH.2.2.1 hc hH.1 (by omega)) rfl (mrecv_of rfl o_150.symm) rfl (Nat.le_of_ble_eq_true rfl) ?_
  show Wp _ _ _ _ (.int 1 :: _) _ _
  refine W_if_ne (tgt := 119) d_153_114 (by decide) (fun _ => ?_) (fun h114 => absurd h114 (by decide))
  refine W_iconst d_153_119 (v := 0) (by decide) ?_
  refine W_istore_n d_153_120 rfl ?_
  refine W_goto (tgt := 14) d_153_121 (by decide) ?_
  exact e_next hB hd (hf.t (FE.y16.t (FE.s ((Sw.u (by decide)).t (Sw.u (by decide)))))) (hH.hold (by decide)) ((va_oth _ _ (by decide)).trans ((va_oth _ _ (by decide)).trans hk.2.1)) hlt (by rw [List.length_cons]; omega) hK
theorem t3f (hB : BH f sz tc Y0 S0) (hd : 4 ≤ d) {m : Int32} {H O : List Int32} {s : Nat} (hk0 : tok f sz s = 45) (hc : cnt H = 5) (hq : (QF g N P tc Y0 S0 Q s)) : (EW d g N P f sz tc Y0 S0 Q 1 m H O s) := by
  intro Y S x hE
  obtain ⟨hf, hH, hb, hs, hk⟩ := hE
  have htc : S 14 = nI tc := (hf.2.2 14 (by decide)).trans hB.2.2.2.1
  have ht := hB.2.2.2.2.1
  have hz := hB.2.2.2.2.2.1
  have h25 : S 25 = 45 := by rw [hk.2.2.1, hk0]; decide
  have hlt := tok_v hs hk0 (by decide)
  have hcl := cnt_le H
  refine W_iload_n d_153_18 rfl ?_
  refine W_if_eq (tgt := 150) d_153_19 (by decide) (fun h19 => absurd h19 (by decide)) (fun _ => ?_)
  refine W_aload_n d_153_22 rfl (by decide) ?_
  refine W_getf d_153_23 o_153 k_7_122 rfl rfl ?_
  rw [h25]
  refine W_iconst d_153_26 (v := 1) (by decide) ?_
  refine W_icmp_eq (tgt := 38) d_153_27 (by decide) (fun h27 => absurd h27 (by decide)) (fun _ => ?_)
  refine W_aload_n d_153_30 rfl (by decide) ?_
  refine W_getf d_153_31 o_153 k_7_122 rfl rfl ?_
  rw [h25]
  refine W_iconst d_153_34 (v := 2) (by decide) ?_
  refine W_icmp_ne (tgt := 75) d_153_35 (by decide) (fun _ => ?_) (fun h35 => absurd h35 (by decide))
  refine W_aload_n d_153_75 rfl (by decide) ?_
  refine W_getf d_153_76 o_153 k_7_122 rfl rfl ?_
  rw [h25]
  refine W_bipush d_153_79 (v := 6) (by decide) ?_
  refine W_icmp_ne (tgt := 99) d_153_81 (by decide) (fun _ => ?_) (fun h81 => absurd h81 (by decide))
  refine W_aload_n d_153_99 rfl (by decide) ?_
  refine W_getf d_153_100 o_153 k_7_122 rfl rfl ?_
  rw [h25]
  refine W_bipush d_153_103 (v := 45) (by decide) ?_
  refine W_icmp_ne (tgt := 124) d_153_105 (by decide) (fun h105 => absurd h105 (by decide)) (fun _ => ?_)
  refine W_aload_n d_153_108 rfl (by decide) ?_
  refine W_bipush d_153_109 (v := 19) (by decide) ?_
  refine W_callV d_153_111 o_153 (Or.inl k_7_159) (by omega) (x_150f (hH.2.2.1.trans (congrArg nI hc))) rfl (mrecv_of rfl o_150.symm) rfl (Nat.le_of_ble_eq_true rfl) ?_
  show Wp _ _ _ _ (.int 0 :: _) _ _
  refine W_if_ne (tgt := 119) d_153_114 (by decide) (fun h114 => absurd h114 (by decide)) (fun _ => ?_)
  refine W_iconst d_153_117 (v := 0) (by decide) ?_
  refine W_iret d_153_118 rt_153 rfl ?_
  exact hq Y S hf hk.1
theorem t4 (hB : BH f sz tc Y0 S0) (hd : 4 ≤ d) {m : Int32} {H O : List Int32} {s : Nat} (hk0 : tok f sz s = 40) (hc : cnt H < 5) (hK : (EW d g N P f sz tc Y0 S0 Q 1 1 (0 :: H) O (nxt f sz s))) : (EW d g N P f sz tc Y0 S0 Q 1 m H O s) := by
  intro Y S x hE
  obtain ⟨hf, hH, hb, hs, hk⟩ := hE
  have htc : S 14 = nI tc := (hf.2.2 14 (by decide)).trans hB.2.2.2.1
  have ht := hB.2.2.2.2.1
  have hz := hB.2.2.2.2.2.1
  have h25 : S 25 = 40 := by rw [hk.2.2.1, hk0]; decide
  have hlt := tok_v hs hk0 (by decide)
  have hcl := cnt_le H
  refine W_iload_n d_153_18 rfl ?_
  refine W_if_eq (tgt := 150) d_153_19 (by decide) (fun h19 => absurd h19 (by decide)) (fun _ => ?_)
  refine W_aload_n d_153_22 rfl (by decide) ?_
  refine W_getf d_153_23 o_153 k_7_122 rfl rfl ?_
  rw [h25]
  refine W_iconst d_153_26 (v := 1) (by decide) ?_
  refine W_icmp_eq (tgt := 38) d_153_27 (by decide) (fun h27 => absurd h27 (by decide)) (fun _ => ?_)
  refine W_aload_n d_153_30 rfl (by decide) ?_
  refine W_getf d_153_31 o_153 k_7_122 rfl rfl ?_
  rw [h25]
  refine W_iconst d_153_34 (v := 2) (by decide) ?_
  refine W_icmp_ne (tgt := 75) d_153_35 (by decide) (fun _ => ?_) (fun h35 => absurd h35 (by decide))
  refine W_aload_n d_153_75 rfl (by decide) ?_
  refine W_getf d_153_76 o_153 k_7_122 rfl rfl ?_
  rw [h25]
  refine W_bipush d_153_79 (v := 6) (by decide) ?_
  refine W_icmp_ne (tgt := 99) d_153_81 (by decide) (fun _ => ?_) (fun h81 => absurd h81 (by decide))
  refine W_aload_n d_153_99 rfl (by decide) ?_
  refine W_getf d_153_100 o_153 k_7_122 rfl rfl ?_
  rw [h25]
  refine W_bipush d_153_103 (v := 45) (by decide) ?_
  refine W_icmp_ne (tgt := 124) d_153_105 (by decide) (fun _ => ?_) (fun h105 => absurd h105 (by decide))
  refine W_aload_n d_153_124 rfl (by decide) ?_
  refine W_getf d_153_125 o_153 k_7_122 rfl rfl ?_
  rw [h25]
  refine W_bipush d_153_128 (v := 40) (by decide) ?_
  refine W_icmp_ne (tgt := 148) d_153_130 (by decide) (fun h130 => absurd h130 (by decide)) (fun _ => ?_)
  refine W_aload_n d_153_133 rfl (by decide) ?_
  refine W_iconst d_153_134 (v := 0) (by decide) ?_
  refine W_callV d_153_135 o_153 (Or.inl k_7_159) (by omega) (x_150 (w := cnt H) (n := H.length) (by omega) hH.2.2.1 hc hH.1 (by omega)) rfl (mrecv_of rfl o_150.symm) rfl (Nat.le_of_ble_eq_true rfl) ?_
  show Wp _ _ _ _ (.int 1 :: _) _ _
  refine W_if_ne (tgt := 143) d_153_138 (by decide) (fun _ => ?_) (fun h138 => absurd h138 (by decide))
  refine W_iconst d_153_143 (v := 1) (by decide) ?_
  refine W_istore_n d_153_144 rfl ?_
  refine W_goto (tgt := 14) d_153_145 (by decide) ?_
  exact e_next hB hd (hf.t (FE.y16.t (FE.s ((Sw.u (by decide)).t (Sw.u (by decide)))))) (hH.hold (by decide)) ((va_oth _ _ (by decide)).trans ((va_oth _ _ (by decide)).trans hk.2.1)) hlt (by rw [List.length_cons]; omega) hK
theorem t4f (hB : BH f sz tc Y0 S0) (hd : 4 ≤ d) {m : Int32} {H O : List Int32} {s : Nat} (hk0 : tok f sz s = 40) (hc : cnt H = 5) (hq : (QF g N P tc Y0 S0 Q s)) : (EW d g N P f sz tc Y0 S0 Q 1 m H O s) := by
  intro Y S x hE
  obtain ⟨hf, hH, hb, hs, hk⟩ := hE
  have htc : S 14 = nI tc := (hf.2.2 14 (by decide)).trans hB.2.2.2.1
  have ht := hB.2.2.2.2.1
  have hz := hB.2.2.2.2.2.1
  have h25 : S 25 = 40 := by rw [hk.2.2.1, hk0]; decide
  have hlt := tok_v hs hk0 (by decide)
  have hcl := cnt_le H
  refine W_iload_n d_153_18 rfl ?_
  refine W_if_eq (tgt := 150) d_153_19 (by decide) (fun h19 => absurd h19 (by decide)) (fun _ => ?_)
  refine W_aload_n d_153_22 rfl (by decide) ?_
  refine W_getf d_153_23 o_153 k_7_122 rfl rfl ?_
  rw [h25]
  refine W_iconst d_153_26 (v := 1) (by decide) ?_
  refine W_icmp_eq (tgt := 38) d_153_27 (by decide) (fun h27 => absurd h27 (by decide)) (fun _ => ?_)
  refine W_aload_n d_153_30 rfl (by decide) ?_
  refine W_getf d_153_31 o_153 k_7_122 rfl rfl ?_
  rw [h25]
  refine W_iconst d_153_34 (v := 2) (by decide) ?_
  refine W_icmp_ne (tgt := 75) d_153_35 (by decide) (fun _ => ?_) (fun h35 => absurd h35 (by decide))
  refine W_aload_n d_153_75 rfl (by decide) ?_
  refine W_getf d_153_76 o_153 k_7_122 rfl rfl ?_
  rw [h25]
  refine W_bipush d_153_79 (v := 6) (by decide) ?_
  refine W_icmp_ne (tgt := 99) d_153_81 (by decide) (fun _ => ?_) (fun h81 => absurd h81 (by decide))
  refine W_aload_n d_153_99 rfl (by decide) ?_
  refine W_getf d_153_100 o_153 k_7_122 rfl rfl ?_
  rw [h25]
  refine W_bipush d_153_103 (v := 45) (by decide) ?_
  refine W_icmp_ne (tgt := 124) d_153_105 (by decide) (fun _ => ?_) (fun h105 => absurd h105 (by decide))
  refine W_aload_n d_153_124 rfl (by decide) ?_
  refine W_getf d_153_125 o_153 k_7_122 rfl rfl ?_
  rw [h25]
  refine W_bipush d_153_128 (v := 40) (by decide) ?_
  refine W_icmp_ne (tgt := 148) d_153_130 (by decide) (fun h130 => absurd h130 (by decide)) (fun _ => ?_)
  refine W_aload_n d_153_133 rfl (by decide) ?_
  refine W_iconst d_153_134 (v := 0) (by decide) ?_
  refine W_callV d_153_135 o_153 (Or.inl k_7_159) (by omega) (x_150f (hH.2.2.1.trans (congrArg nI hc))) rfl (mrecv_of rfl o_150.symm) rfl (Nat.le_of_ble_eq_true rfl) ?_
  show Wp _ _ _ _ (.int 0 :: _) _ _
  refine W_if_ne (tgt := 143) d_153_138 (by decide) (fun h138 => absurd h138 (by decide)) (fun _ => ?_)
  refine W_iconst d_153_141 (v := 0) (by decide) ?_
  refine W_iret d_153_142 rt_153 rfl ?_
  exact hq Y S hf hk.1
theorem t5 (hB : BH f sz tc Y0 S0) (hd : 4 ≤ d) {m : Int32} {H O : List Int32} {s : Nat} (h12 : ¬ tok f sz s = 12) (hnm : ¬ (6 ≤ tok f sz s ∧ tok f sz s ≤ 11)) (h45 : ¬ tok f sz s = 45) (h40 : ¬ tok f sz s = 40) (h5 : ¬ tok f sz s = 5) (hq : (QF g N P tc Y0 S0 Q s)) : (EW d g N P f sz tc Y0 S0 Q 1 m H O s) := by
  intro Y S x hE
  obtain ⟨hf, hH, hb, hs, hk⟩ := hE
  have htc : S 14 = nI tc := (hf.2.2 14 (by decide)).trans hB.2.2.2.1
  have ht := hB.2.2.2.2.1
  have hz := hB.2.2.2.2.2.1
  have hi := mtk_i _ (tok_r hs hB.2.2.2.2.2.2)
  have n1 : ¬ S 25 = 1 := fun q => h12 (hi.1.mp (hk.2.2.1.symm.trans q))
  have n2 : ¬ S 25 = 2 := fun q => hnm (hi.2.1.mp (hk.2.2.1.symm.trans q))
  have n45 : ¬ S 25 = 45 := fun q => h45 (hi.2.2.2.1.mp (hk.2.2.1.symm.trans q))
  have n40 : ¬ S 25 = 40 := fun q => h40 (hi.2.2.2.2.1.mp (hk.2.2.1.symm.trans q))
  have n6 : ¬ S 25 = 6 := fun q => h5 (hi.2.2.1.mp (hk.2.2.1.symm.trans q))
  refine W_iload_n d_153_18 rfl ?_
  refine W_if_eq (tgt := 150) d_153_19 (by decide) (fun h19 => absurd h19 (by decide)) (fun _ => ?_)
  refine W_aload_n d_153_22 rfl (by decide) ?_
  refine W_getf d_153_23 o_153 k_7_122 rfl rfl ?_
  refine W_iconst d_153_26 (v := 1) (by decide) ?_
  refine W_icmp_eq (tgt := 38) d_153_27 (by decide) (fun h27 => absurd h27 n1) (fun h27 => ?_)
  refine W_aload_n d_153_30 rfl (by decide) ?_
  refine W_getf d_153_31 o_153 k_7_122 rfl rfl ?_
  refine W_iconst d_153_34 (v := 2) (by decide) ?_
  refine W_icmp_ne (tgt := 75) d_153_35 (by decide) (fun h35 => ?_) (fun h35 => absurd h35 n2)
  refine W_aload_n d_153_75 rfl (by decide) ?_
  refine W_getf d_153_76 o_153 k_7_122 rfl rfl ?_
  refine W_bipush d_153_79 (v := 6) (by decide) ?_
  refine W_icmp_ne (tgt := 99) d_153_81 (by decide) (fun h81 => ?_) (fun h81 => absurd h81 n6)
  refine W_aload_n d_153_99 rfl (by decide) ?_
  refine W_getf d_153_100 o_153 k_7_122 rfl rfl ?_
  refine W_bipush d_153_103 (v := 45) (by decide) ?_
  refine W_icmp_ne (tgt := 124) d_153_105 (by decide) (fun h105 => ?_) (fun h105 => absurd h105 n45)
  refine W_aload_n d_153_124 rfl (by decide) ?_
  refine W_getf d_153_125 o_153 k_7_122 rfl rfl ?_
  refine W_bipush d_153_128 (v := 40) (by decide) ?_
  refine W_icmp_ne (tgt := 148) d_153_130 (by decide) (fun h130 => ?_) (fun h130 => absurd h130 n40)
  refine W_iconst d_153_148 (v := 0) (by decide) ?_
  refine W_iret d_153_149 rt_153 rfl ?_
  exact hq Y S hf hk.1
theorem t5m (hB : BH f sz tc Y0 S0) (hd : 4 ≤ d) {m : Int32} {H O : List Int32} {s : Nat} (hk0 : tok f sz s = 5) (hq : (QF g N P tc Y0 S0 Q s)) : (EW d g N P f sz tc Y0 S0 Q 1 0 H O s) := by
  intro Y S x hE
  obtain ⟨hf, hH, hb, hs, hk⟩ := hE
  have htc : S 14 = nI tc := (hf.2.2 14 (by decide)).trans hB.2.2.2.1
  have ht := hB.2.2.2.2.1
  have hz := hB.2.2.2.2.2.1
  have h25 : S 25 = 6 := by rw [hk.2.2.1, hk0]; decide
  refine W_iload_n d_153_18 rfl ?_
  refine W_if_eq (tgt := 150) d_153_19 (by decide) (fun h19 => absurd h19 (by decide)) (fun _ => ?_)
  refine W_aload_n d_153_22 rfl (by decide) ?_
  refine W_getf d_153_23 o_153 k_7_122 rfl rfl ?_
  rw [h25]
  refine W_iconst d_153_26 (v := 1) (by decide) ?_
  refine W_icmp_eq (tgt := 38) d_153_27 (by decide) (fun h27 => absurd h27 (by decide)) (fun _ => ?_)
  refine W_aload_n d_153_30 rfl (by decide) ?_
  refine W_getf d_153_31 o_153 k_7_122 rfl rfl ?_
  rw [h25]
  refine W_iconst d_153_34 (v := 2) (by decide) ?_
  refine W_icmp_ne (tgt := 75) d_153_35 (by decide) (fun _ => ?_) (fun h35 => absurd h35 (by decide))
  refine W_aload_n d_153_75 rfl (by decide) ?_
  refine W_getf d_153_76 o_153 k_7_122 rfl rfl ?_
  rw [h25]
  refine W_bipush d_153_79 (v := 6) (by decide) ?_
  refine W_icmp_ne (tgt := 99) d_153_81 (by decide) (fun h81 => absurd h81 (by decide)) (fun _ => ?_)
  refine W_iload_n d_153_84 rfl ?_
  refine W_if_eq (tgt := 99) d_153_85 (by decide) (fun _ => ?_) (fun h85 => absurd h85 (by decide))
  refine W_aload_n d_153_99 rfl (by decide) ?_
  refine W_getf d_153_100 o_153 k_7_122 rfl rfl ?_
  rw [h25]
  refine W_bipush d_153_103 (v := 45) (by decide) ?_
  refine W_icmp_ne (tgt := 124) d_153_105 (by decide) (fun _ => ?_) (fun h105 => absurd h105 (by decide))
  refine W_aload_n d_153_124 rfl (by decide) ?_
  refine W_getf d_153_125 o_153 k_7_122 rfl rfl ?_
  rw [h25]
  refine W_bipush d_153_128 (v := 40) (by decide) ?_
  refine W_icmp_ne (tgt := 148) d_153_130 (by decide) (fun _ => ?_) (fun h130 => absurd h130 (by decide))
  refine W_iconst d_153_148 (v := 0) (by decide) ?_
  refine W_iret d_153_149 rt_153 rfl ?_
  exact hq Y S hf hk.1
theorem t6 (hB : BH f sz tc Y0 S0) (hd : 4 ≤ d) {m : Int32} {H O : List Int32} {s : Nat} (hk0 : tok f sz s = 59) (he : (unw 1 H).2 = []) (hq : QT g N P f sz tc Y0 S0 Q (O ++ (unw 1 H).1) s) : (EW d g N P f sz tc Y0 S0 Q 0 m H O s) := by
  intro Y S x hE
  obtain ⟨hf, hH, hb, hs, hk⟩ := hE
  have htc : S 14 = nI tc := (hf.2.2 14 (by decide)).trans hB.2.2.2.1
  have ht := hB.2.2.2.2.1
  have hz := hB.2.2.2.2.2.1
  have h25 : S 25 = 59 := by rw [hk.2.2.1, hk0]; decide
  have hlt := tok_v hs hk0 (by decide)
  have hu2 : (unw 1 H).2.length = 0 := congrArg List.length he
  refine W_iload_n d_153_18 rfl ?_
  refine W_if_eq (tgt := 150) d_153_19 (by decide) (fun _ => ?_) (fun h19 => absurd h19 (by decide))
  refine W_aload_n d_153_150 rfl (by decide) ?_
  refine W_getf d_153_151 o_153 k_7_122 rfl rfl ?_
  rw [h25]
  refine W_bipush d_153_154 (v := 59) (by decide) ?_
  refine W_icmp_ne (tgt := 177) d_153_156 (by decide) (fun h156 => absurd h156 (by decide)) (fun _ => ?_)
  refine W_aload_n d_153_159 rfl (by decide) ?_
  refine W_iconst d_153_160 (v := 1) (by decide) ?_
  refine W_callVQ d_153_161 o_153 (Or.inl k_7_152) (by omega) (x_148 (H := H) (O := O) (by omega) (by decide) ht hH htc (by omega)) rfl (mrecv_of rfl o_148.symm) rfl (Nat.le_of_ble_eq_true rfl) ?_
  rintro _ _ ⟨rfl, Y2, S2, rfl, f2, s2⟩
  refine W_aload_n d_153_164 rfl (by decide) ?_
  refine W_getf d_153_165 o_153 k_7_135 rfl rfl ?_
  rw [s2.1, hu2]
  show Wp _ _ _ _ (.int 0 :: _) _ _
  refine W_if_ne (tgt := 175) d_153_168 (by decide) (fun h168 => absurd h168 (by decide)) (fun _ => ?_)
  refine W_iconst d_153_171 (v := 1) (by decide) ?_
  refine W_goto (tgt := 176) d_153_172 (by decide) ?_
  refine W_iret d_153_176 rt_153 rfl ?_
  have hu := unw_len 1 H
  rw [he] at s2
  exact hq Y2 S2 (hf.t f2.we) s2 (by rw [List.length_append]; omega) hs ⟨(f2.2.2 24 (by decide)).trans hk.1, (f2.2.2 23 (by decide)).trans hk.2.1, (f2.2.2 25 (by decide)).trans hk.2.2.1, by rw [f2.2.2 26 (by decide)]; exact hk.2.2.2⟩
theorem t6f (hB : BH f sz tc Y0 S0) (hd : 4 ≤ d) {m : Int32} {H O : List Int32} {s : Nat} (hk0 : tok f sz s = 59) {a : Int32} {r : List Int32} (he : (unw 1 H).2 = a :: r) (hq : (QF g N P tc Y0 S0 Q s)) : (EW d g N P f sz tc Y0 S0 Q 0 m H O s) := by
  intro Y S x hE
  obtain ⟨hf, hH, hb, hs, hk⟩ := hE
  have htc : S 14 = nI tc := (hf.2.2 14 (by decide)).trans hB.2.2.2.1
  have ht := hB.2.2.2.2.1
  have hz := hB.2.2.2.2.2.1
  have h25 : S 25 = 59 := by rw [hk.2.2.1, hk0]; decide
  have hlt := tok_v hs hk0 (by decide)
  have hu2 : (unw 1 H).2.length = r.length + 1 := congrArg List.length he
  have hu := unw_len 1 H
  refine W_iload_n d_153_18 rfl ?_
  refine W_if_eq (tgt := 150) d_153_19 (by decide) (fun _ => ?_) (fun h19 => absurd h19 (by decide))
  refine W_aload_n d_153_150 rfl (by decide) ?_
  refine W_getf d_153_151 o_153 k_7_122 rfl rfl ?_
  rw [h25]
  refine W_bipush d_153_154 (v := 59) (by decide) ?_
  refine W_icmp_ne (tgt := 177) d_153_156 (by decide) (fun h156 => absurd h156 (by decide)) (fun _ => ?_)
  refine W_aload_n d_153_159 rfl (by decide) ?_
  refine W_iconst d_153_160 (v := 1) (by decide) ?_
  refine W_callVQ d_153_161 o_153 (Or.inl k_7_152) (by omega) (x_148 (H := H) (O := O) (by omega) (by decide) ht hH htc (by omega)) rfl (mrecv_of rfl o_148.symm) rfl (Nat.le_of_ble_eq_true rfl) ?_
  rintro _ _ ⟨rfl, Y2, S2, rfl, f2, s2⟩
  refine W_aload_n d_153_164 rfl (by decide) ?_
  refine W_getf d_153_165 o_153 k_7_135 rfl rfl ?_
  rw [s2.1, hu2]
  refine W_if_ne (tgt := 175) d_153_168 (by decide) (fun h168 => ?_) (fun h168 => absurd h168 (fun q => absurd ((nI_eq (a := r.length + 1) (b := 0) (by omega) (by omega)).mp q) (show ¬ r.length + 1 = 0 by omega)))
  refine W_iconst d_153_175 (v := 0) (by decide) ?_
  refine W_iret d_153_176 rt_153 rfl ?_
  exact hq Y2 S2 (hf.t f2.we) ((f2.2.2 24 (by decide)).trans hk.1)
theorem t7f (hB : BH f sz tc Y0 S0) (hd : 4 ≤ d) {m : Int32} {H O : List Int32} {s : Nat} (hk0 : tok f sz s = 41) (he : (unw 1 H).2 = []) (hq : (QF g N P tc Y0 S0 Q s)) : (EW d g N P f sz tc Y0 S0 Q 0 m H O s) := by
  intro Y S x hE
  obtain ⟨hf, hH, hb, hs, hk⟩ := hE
  have htc : S 14 = nI tc := (hf.2.2 14 (by decide)).trans hB.2.2.2.1
  have ht := hB.2.2.2.2.1
  have hz := hB.2.2.2.2.2.1
  have h25 : S 25 = 41 := by rw [hk.2.2.1, hk0]; decide
  have hlt := tok_v hs hk0 (by decide)
  have hu2 : (unw 1 H).2.length = 0 := congrArg List.length he
  refine W_iload_n d_153_18 rfl ?_
  refine W_if_eq (tgt := 150) d_153_19 (by decide) (fun _ => ?_) (fun h19 => absurd h19 (by decide))
  refine W_aload_n d_153_150 rfl (by decide) ?_
  refine W_getf d_153_151 o_153 k_7_122 rfl rfl ?_
  rw [h25]
  refine W_bipush d_153_154 (v := 59) (by decide) ?_
  refine W_icmp_ne (tgt := 177) d_153_156 (by decide) (fun _ => ?_) (fun h156 => absurd h156 (by decide))
  refine W_aload_n d_153_177 rfl (by decide) ?_
  refine W_getf d_153_178 o_153 k_7_122 rfl rfl ?_
  rw [h25]
  refine W_bipush d_153_181 (v := 41) (by decide) ?_
  refine W_icmp_ne (tgt := 229) d_153_183 (by decide) (fun h183 => absurd h183 (by decide)) (fun _ => ?_)
  refine W_aload_n d_153_186 rfl (by decide) ?_
  refine W_iconst d_153_187 (v := 1) (by decide) ?_
  refine W_callVQ d_153_188 o_153 (Or.inl k_7_152) (by omega) (x_148 (H := H) (O := O) (by omega) (by decide) ht hH htc (by omega)) rfl (mrecv_of rfl o_148.symm) rfl (Nat.le_of_ble_eq_true rfl) ?_
  rintro _ _ ⟨rfl, Y2, S2, rfl, f2, s2⟩
  refine W_aload_n d_153_191 rfl (by decide) ?_
  refine W_getf d_153_192 o_153 k_7_135 rfl rfl ?_
  rw [s2.1, hu2]
  show Wp _ _ _ _ (.int 0 :: _) _ _
  refine W_if_ne (tgt := 200) d_153_195 (by decide) (fun h195 => absurd h195 (by decide)) (fun _ => ?_)
  refine W_iconst d_153_198 (v := 0) (by decide) ?_
  refine W_iret d_153_199 rt_153 rfl ?_
  exact hq Y2 S2 (hf.t f2.we) ((f2.2.2 24 (by decide)).trans hk.1)
theorem t7 (hB : BH f sz tc Y0 S0) (hd : 4 ≤ d) {m : Int32} {H O : List Int32} {s : Nat} (hk0 : tok f sz s = 41) {a : Int32} {r : List Int32} (he : (unw 1 H).2 = a :: r) (hK : (EW d g N P f sz tc Y0 S0 Q 0 m (unw 7 r).2 (O ++ (unw 1 H).1 ++ (unw 7 r).1) (nxt f sz s))) : (EW d g N P f sz tc Y0 S0 Q 0 m H O s) := by
  intro Y S x hE
  obtain ⟨hf, hH, hb, hs, hk⟩ := hE
  have htc : S 14 = nI tc := (hf.2.2 14 (by decide)).trans hB.2.2.2.1
  have ht := hB.2.2.2.2.1
  have hz := hB.2.2.2.2.2.1
  have h25 : S 25 = 41 := by rw [hk.2.2.1, hk0]; decide
  have hlt := tok_v hs hk0 (by decide)
  have hu2 : (unw 1 H).2.length = r.length + 1 := congrArg List.length he
  have hu := unw_len 1 H
  have hu7 := unw_len 7 r
  have ha0 : a = 0 := rnk_0 (unw_top he)
  refine W_iload_n d_153_18 rfl ?_
  refine W_if_eq (tgt := 150) d_153_19 (by decide) (fun _ => ?_) (fun h19 => absurd h19 (by decide))
  refine W_aload_n d_153_150 rfl (by decide) ?_
  refine W_getf d_153_151 o_153 k_7_122 rfl rfl ?_
  rw [h25]
  refine W_bipush d_153_154 (v := 59) (by decide) ?_
  refine W_icmp_ne (tgt := 177) d_153_156 (by decide) (fun _ => ?_) (fun h156 => absurd h156 (by decide))
  refine W_aload_n d_153_177 rfl (by decide) ?_
  refine W_getf d_153_178 o_153 k_7_122 rfl rfl ?_
  rw [h25]
  refine W_bipush d_153_181 (v := 41) (by decide) ?_
  refine W_icmp_ne (tgt := 229) d_153_183 (by decide) (fun h183 => absurd h183 (by decide)) (fun _ => ?_)
  refine W_aload_n d_153_186 rfl (by decide) ?_
  refine W_iconst d_153_187 (v := 1) (by decide) ?_
  refine W_callVQ d_153_188 o_153 (Or.inl k_7_152) (by omega) (x_148 (H := H) (O := O) (by omega) (by decide) ht hH htc (by omega)) rfl (mrecv_of rfl o_148.symm) rfl (Nat.le_of_ble_eq_true rfl) ?_
  rintro _ _ ⟨rfl, Y2, S2, rfl, f2, s2⟩
  have hx : SH tc (0 :: r) (O ++ (unw 1 H).1) Y2 S2 := by rw [← ha0, ← he]; exact s2
  refine W_aload_n d_153_191 rfl (by decide) ?_
  refine W_getf d_153_192 o_153 k_7_135 rfl rfl ?_
  rw [s2.1, hu2]
  refine W_if_ne (tgt := 200) d_153_195 (by decide) (fun h195 => ?_) (fun h195 => absurd h195 (fun q => absurd ((nI_eq (a := r.length + 1) (b := 0) (by omega) (by omega)).mp q) (show ¬ r.length + 1 = 0 by omega)))
  refine W_aload_n d_153_200 rfl (by decide) ?_
  refine W_dup d_153_201 rfl ?_
  refine W_getf d_153_202 o_153 k_7_135 rfl rfl ?_
  rw [s2.1, hu2]
  refine W_iconst d_153_205 (v := 1) (by decide) ?_
  refine W_isub d_153_206 ?_
  rw [show ((nI (r.length + 1) - 1 : Int32)) = nI ((r.length + 1) - 1) from pk_sub (a := r.length + 1) (b := 1) (by omega)]
  rw [show r.length + 1 - 1 = r.length from rfl]
  refine W_putf d_153_207 o_153 k_7_135 rfl (Nat.le_of_ble_eq_true rfl) rfl mm_s29 ?_
  refine W_aload_n d_153_210 rfl (by decide) ?_
  refine W_dup d_153_211 rfl ?_
  refine W_getf d_153_212 o_153 k_7_142 rfl rfl ?_
  rw [va_oth _ _ (by decide), hx.2.2.1]
  refine W_iconst d_153_215 (v := 1) (by decide) ?_
  refine W_isub d_153_216 ?_
  have ec : nI (cnt (0 :: r)) - 1 = nI (cnt r) := by
    rw [cnt, if_pos (Or.inl rfl)]
    exact nI_pred _
  rw [ec]
  refine W_putf d_153_217 o_153 k_7_142 rfl (Nat.le_of_ble_eq_true rfl) rfl mm_s30 ?_
  refine W_aload_n d_153_220 rfl (by decide) ?_
  refine W_bipush d_153_221 (v := 7) (by decide) ?_
  refine W_callVQ d_153_223 o_153 (Or.inl k_7_152) (by omega) (x_148 (H := r) (O := O ++ (unw 1 H).1) (by omega) (by decide) ht hx.pop ((va_oth _ _ (by decide)).trans ((va_oth _ _ (by decide)).trans ((f2.2.2 14 (by decide)).trans htc))) (by rw [List.length_append]; omega)) rfl (mrecv_of rfl o_148.symm) rfl (Nat.le_of_ble_eq_true rfl) ?_
  rintro _ _ ⟨rfl, Y3, S3, rfl, f3, s3⟩
  refine W_goto (tgt := 14) d_153_226 (by decide) ?_
  exact e_next hB hd (hf.t (f2.we.t ((FE.s ((Sw.u (by decide)).t (Sw.u (by decide)))).t f3.we))) s3 ((f3.2.2 23 (by decide)).trans ((va_oth _ _ (by decide)).trans ((va_oth _ _ (by decide)).trans ((f2.2.2 23 (by decide)).trans hk.2.1)))) hlt (by rw [List.length_append, List.length_append]; omega) hK
theorem t9 (hB : BH f sz tc Y0 S0) (hd : 4 ≤ d) {m : Int32} {H O : List Int32} {s : Nat} (h59 : ¬ tok f sz s = 59) (h41 : ¬ tok f sz s = 41) (hg : isg (tok f sz s) = false) (hq : (QF g N P tc Y0 S0 Q s)) : (EW d g N P f sz tc Y0 S0 Q 0 m H O s) := by
  intro Y S x hE
  obtain ⟨hf, hH, hb, hs, hk⟩ := hE
  have htc : S 14 = nI tc := (hf.2.2 14 (by decide)).trans hB.2.2.2.1
  have ht := hB.2.2.2.2.1
  have hz := hB.2.2.2.2.2.1
  have hi := mtk_i _ (tok_r hs hB.2.2.2.2.2.2)
  have n59 : ¬ S 25 = 59 := fun q => h59 (hi.2.2.2.2.2.1.mp (hk.2.2.1.symm.trans q))
  have n41 : ¬ S 25 = 41 := fun q => h41 (hi.2.2.2.2.2.2.1.mp (hk.2.2.1.symm.trans q))
  have hsf : sof (S 25) = -1 := by rw [hk.2.2.1, hi.2.2.2.2.2.2.2.2.2, hg, if_neg (by decide)]
  refine W_iload_n d_153_18 rfl ?_
  refine W_if_eq (tgt := 150) d_153_19 (by decide) (fun _ => ?_) (fun h19 => absurd h19 (by decide))
  refine W_aload_n d_153_150 rfl (by decide) ?_
  refine W_getf d_153_151 o_153 k_7_122 rfl rfl ?_
  refine W_bipush d_153_154 (v := 59) (by decide) ?_
  refine W_icmp_ne (tgt := 177) d_153_156 (by decide) (fun h156 => ?_) (fun h156 => absurd h156 n59)
  refine W_aload_n d_153_177 rfl (by decide) ?_
  refine W_getf d_153_178 o_153 k_7_122 rfl rfl ?_
  refine W_bipush d_153_181 (v := 41) (by decide) ?_
  refine W_icmp_ne (tgt := 229) d_153_183 (by decide) (fun h183 => ?_) (fun h183 => absurd h183 n41)
  refine W_aload_n d_153_229 rfl (by decide) ?_
  refine W_callV d_153_230 o_153 (Or.inl k_7_162) (by omega) x_152 rfl (mrecv_of rfl o_152.symm) rfl (Nat.le_of_ble_eq_true rfl) ?_
  refine W_istore_n d_153_233 rfl ?_
  refine W_iload_n d_153_234 rfl ?_
  refine W_iconst d_153_235 (v := (-1)) (by decide) ?_
  refine W_icmp_eq (tgt := 247) d_153_236 (by decide) (fun h236 => ?_) (fun h236 => absurd hsf h236)
  refine W_iconst d_153_247 (v := 0) (by decide) ?_
  refine W_iret d_153_248 rt_153 rfl ?_
  exact hq Y S hf hk.1
theorem t8a (hB : BH f sz tc Y0 S0) (hd : 4 ≤ d) {m : Int32} {H O : List Int32} {s : Nat} {sg : Int32} (h59 : ¬ tok f sz s = 59) (h41 : ¬ tok f sz s = 41) (hg : isg (tok f sz s) = true) (hsg : 10 - cst (tok f sz s) = sg) (hn1 : ¬ sg = -1) (hs0 : ¬ (sg = 0 ∨ sg = 13 ∨ sg = 19)) {L : Int32} (hr4 : ¬ rnk sg = 4) (hL : L = rnk sg) (h1 : 1 ≤ L) (hm : ¬ 12 < sg) (hK : (EW d g N P f sz tc Y0 S0 Q 1 1 (sg :: (unw L H).2) (O ++ (unw L H).1) (nxt f sz s))) : (EW d g N P f sz tc Y0 S0 Q 0 m H O s) := by
  intro Y S x hE
  obtain ⟨hf, hH, hb, hs, hk⟩ := hE
  have htc : S 14 = nI tc := (hf.2.2 14 (by decide)).trans hB.2.2.2.1
  have ht := hB.2.2.2.2.1
  have hz := hB.2.2.2.2.2.1
  have hi := mtk_i _ (tok_r hs hB.2.2.2.2.2.2)
  have n59 : ¬ S 25 = 59 := fun q => h59 (hi.2.2.2.2.2.1.mp (hk.2.2.1.symm.trans q))
  have n41 : ¬ S 25 = 41 := fun q => h41 (hi.2.2.2.2.2.2.1.mp (hk.2.2.1.symm.trans q))
  have hsf : sof (S 25) = sg := by rw [hk.2.2.1, hi.2.2.2.2.2.2.2.2.2, hg, if_pos rfl, hsg]
  have hlt : s < sz := tok_lt hs (fun q => by rw [q] at hg; exact absurd hg (by decide))
  have hu := unw_len L H
  refine W_iload_n d_153_18 rfl ?_
  refine W_if_eq (tgt := 150) d_153_19 (by decide) (fun _ => ?_) (fun h19 => absurd h19 (by decide))
  refine W_aload_n d_153_150 rfl (by decide) ?_
  refine W_getf d_153_151 o_153 k_7_122 rfl rfl ?_
  refine W_bipush d_153_154 (v := 59) (by decide) ?_
  refine W_icmp_ne (tgt := 177) d_153_156 (by decide) (fun h156 => ?_) (fun h156 => absurd h156 n59)
  refine W_aload_n d_153_177 rfl (by decide) ?_
  refine W_getf d_153_178 o_153 k_7_122 rfl rfl ?_
  refine W_bipush d_153_181 (v := 41) (by decide) ?_
  refine W_icmp_ne (tgt := 229) d_153_183 (by decide) (fun h183 => ?_) (fun h183 => absurd h183 n41)
  refine W_aload_n d_153_229 rfl (by decide) ?_
  refine W_callV d_153_230 o_153 (Or.inl k_7_162) (by omega) x_152 rfl (mrecv_of rfl o_152.symm) rfl (Nat.le_of_ble_eq_true rfl) ?_
  rw [hsf]
  refine W_istore_n d_153_233 rfl ?_
  refine W_iload_n d_153_234 rfl ?_
  refine W_iconst d_153_235 (v := (-1)) (by decide) ?_
  refine W_icmp_eq (tgt := 247) d_153_236 (by decide) (fun h236 => absurd h236 hn1) (fun h236 => ?_)
  refine W_aload_n d_153_239 rfl (by decide) ?_
  refine W_iload_n d_153_240 rfl ?_
  refine W_callVQ d_153_241 o_153 (Or.inl k_7_165) (by omega) (x_151 (by omega) ht hH htc (by omega) hr4 hL h1 hs0) rfl (mrecv_of rfl o_151.symm) rfl (Nat.le_of_ble_eq_true rfl) ?_
  rintro _ _ ⟨Y2, S2, rfl, f2, rfl, s2⟩
  show Wp _ _ _ _ (.int 1 :: _) _ _
  refine W_if_ne (tgt := 249) d_153_244 (by decide) (fun _ => ?_) (fun h244 => absurd h244 (by decide))
  refine W_iconst d_153_249 (v := 1) (by decide) ?_
  refine W_istore_n d_153_250 rfl ?_
  refine W_iload_n d_153_251 rfl ?_
  refine W_bipush d_153_252 (v := 12) (by decide) ?_
  refine W_icmp_gt (tgt := 261) d_153_254 (by decide) (fun h254 => absurd h254 hm) (fun h254 => ?_)
  refine W_iconst d_153_257 (v := 1) (by decide) ?_
  refine W_goto (tgt := 262) d_153_258 (by decide) ?_
  refine W_istore_n d_153_262 rfl ?_
  refine W_goto (tgt := 14) d_153_263 (by decide) ?_
  exact e_next hB hd (hf.t f2.we) s2 ((f2.2.2 23 (by decide)).trans hk.2.1) hlt (by rw [List.length_append, List.length_cons]; omega) hK
theorem t8b (hB : BH f sz tc Y0 S0) (hd : 4 ≤ d) {m : Int32} {H O : List Int32} {s : Nat} {sg : Int32} (h59 : ¬ tok f sz s = 59) (h41 : ¬ tok f sz s = 41) (hg : isg (tok f sz s) = true) (hsg : 10 - cst (tok f sz s) = sg) (hn1 : ¬ sg = -1) (hs0 : ¬ (sg = 0 ∨ sg = 13 ∨ sg = 19)) {L : Int32} (hr4 : ¬ rnk sg = 4) (hL : L = rnk sg) (h1 : 1 ≤ L) (hm : 12 < sg) (hK : (EW d g N P f sz tc Y0 S0 Q 1 0 (sg :: (unw L H).2) (O ++ (unw L H).1) (nxt f sz s))) : (EW d g N P f sz tc Y0 S0 Q 0 m H O s) := by
  intro Y S x hE
  obtain ⟨hf, hH, hb, hs, hk⟩ := hE
  have htc : S 14 = nI tc := (hf.2.2 14 (by decide)).trans hB.2.2.2.1
  have ht := hB.2.2.2.2.1
  have hz := hB.2.2.2.2.2.1
  have hi := mtk_i _ (tok_r hs hB.2.2.2.2.2.2)
  have n59 : ¬ S 25 = 59 := fun q => h59 (hi.2.2.2.2.2.1.mp (hk.2.2.1.symm.trans q))
  have n41 : ¬ S 25 = 41 := fun q => h41 (hi.2.2.2.2.2.2.1.mp (hk.2.2.1.symm.trans q))
  have hsf : sof (S 25) = sg := by rw [hk.2.2.1, hi.2.2.2.2.2.2.2.2.2, hg, if_pos rfl, hsg]
  have hlt : s < sz := tok_lt hs (fun q => by rw [q] at hg; exact absurd hg (by decide))
  have hu := unw_len L H
  refine W_iload_n d_153_18 rfl ?_
  refine W_if_eq (tgt := 150) d_153_19 (by decide) (fun _ => ?_) (fun h19 => absurd h19 (by decide))
  refine W_aload_n d_153_150 rfl (by decide) ?_
  refine W_getf d_153_151 o_153 k_7_122 rfl rfl ?_
  refine W_bipush d_153_154 (v := 59) (by decide) ?_
  refine W_icmp_ne (tgt := 177) d_153_156 (by decide) (fun h156 => ?_) (fun h156 => absurd h156 n59)
  refine W_aload_n d_153_177 rfl (by decide) ?_
  refine W_getf d_153_178 o_153 k_7_122 rfl rfl ?_
  refine W_bipush d_153_181 (v := 41) (by decide) ?_
  refine W_icmp_ne (tgt := 229) d_153_183 (by decide) (fun h183 => ?_) (fun h183 => absurd h183 n41)
  refine W_aload_n d_153_229 rfl (by decide) ?_
  refine W_callV d_153_230 o_153 (Or.inl k_7_162) (by omega) x_152 rfl (mrecv_of rfl o_152.symm) rfl (Nat.le_of_ble_eq_true rfl) ?_
  rw [hsf]
  refine W_istore_n d_153_233 rfl ?_
  refine W_iload_n d_153_234 rfl ?_
  refine W_iconst d_153_235 (v := (-1)) (by decide) ?_
  refine W_icmp_eq (tgt := 247) d_153_236 (by decide) (fun h236 => absurd h236 hn1) (fun h236 => ?_)
  refine W_aload_n d_153_239 rfl (by decide) ?_
  refine W_iload_n d_153_240 rfl ?_
  refine W_callVQ d_153_241 o_153 (Or.inl k_7_165) (by omega) (x_151 (by omega) ht hH htc (by omega) hr4 hL h1 hs0) rfl (mrecv_of rfl o_151.symm) rfl (Nat.le_of_ble_eq_true rfl) ?_
  rintro _ _ ⟨Y2, S2, rfl, f2, rfl, s2⟩
  show Wp _ _ _ _ (.int 1 :: _) _ _
  refine W_if_ne (tgt := 249) d_153_244 (by decide) (fun _ => ?_) (fun h244 => absurd h244 (by decide))
  refine W_iconst d_153_249 (v := 1) (by decide) ?_
  refine W_istore_n d_153_250 rfl ?_
  refine W_iload_n d_153_251 rfl ?_
  refine W_bipush d_153_252 (v := 12) (by decide) ?_
  refine W_icmp_gt (tgt := 261) d_153_254 (by decide) (fun h254 => ?_) (fun h254 => absurd hm h254)
  refine W_iconst d_153_261 (v := 0) (by decide) ?_
  refine W_istore_n d_153_262 rfl ?_
  refine W_goto (tgt := 14) d_153_263 (by decide) ?_
  exact e_next hB hd (hf.t f2.we) s2 ((f2.2.2 23 (by decide)).trans hk.2.1) hlt (by rw [List.length_append, List.length_cons]; omega) hK
theorem t8e (hB : BH f sz tc Y0 S0) (hd : 4 ≤ d) {m : Int32} {H O : List Int32} {s : Nat} {sg : Int32} (h59 : ¬ tok f sz s = 59) (h41 : ¬ tok f sz s = 41) (hg : isg (tok f sz s) = true) (hsg : 10 - cst (tok f sz s) = sg) (hn1 : ¬ sg = -1) (hs0 : ¬ (sg = 0 ∨ sg = 13 ∨ sg = 19)) (hr4 : rnk sg = 4) (he : (unw 5 H).2 = []) (hm : 12 < sg) (hK : (EW d g N P f sz tc Y0 S0 Q 1 0 (sg :: (unw 5 H).2) (O ++ (unw 5 H).1) (nxt f sz s))) : (EW d g N P f sz tc Y0 S0 Q 0 m H O s) := by
  intro Y S x hE
  obtain ⟨hf, hH, hb, hs, hk⟩ := hE
  have htc : S 14 = nI tc := (hf.2.2 14 (by decide)).trans hB.2.2.2.1
  have ht := hB.2.2.2.2.1
  have hz := hB.2.2.2.2.2.1
  have hi := mtk_i _ (tok_r hs hB.2.2.2.2.2.2)
  have n59 : ¬ S 25 = 59 := fun q => h59 (hi.2.2.2.2.2.1.mp (hk.2.2.1.symm.trans q))
  have n41 : ¬ S 25 = 41 := fun q => h41 (hi.2.2.2.2.2.2.1.mp (hk.2.2.1.symm.trans q))
  have hsf : sof (S 25) = sg := by rw [hk.2.2.1, hi.2.2.2.2.2.2.2.2.2, hg, if_pos rfl, hsg]
  have hlt : s < sz := tok_lt hs (fun q => by rw [q] at hg; exact absurd hg (by decide))
  have hu := unw_len 5 H
  refine W_iload_n d_153_18 rfl ?_
  refine W_if_eq (tgt := 150) d_153_19 (by decide) (fun _ => ?_) (fun h19 => absurd h19 (by decide))
  refine W_aload_n d_153_150 rfl (by decide) ?_
  refine W_getf d_153_151 o_153 k_7_122 rfl rfl ?_
  refine W_bipush d_153_154 (v := 59) (by decide) ?_
  refine W_icmp_ne (tgt := 177) d_153_156 (by decide) (fun h156 => ?_) (fun h156 => absurd h156 n59)
  refine W_aload_n d_153_177 rfl (by decide) ?_
  refine W_getf d_153_178 o_153 k_7_122 rfl rfl ?_
  refine W_bipush d_153_181 (v := 41) (by decide) ?_
  refine W_icmp_ne (tgt := 229) d_153_183 (by decide) (fun h183 => ?_) (fun h183 => absurd h183 n41)
  refine W_aload_n d_153_229 rfl (by decide) ?_
  refine W_callV d_153_230 o_153 (Or.inl k_7_162) (by omega) x_152 rfl (mrecv_of rfl o_152.symm) rfl (Nat.le_of_ble_eq_true rfl) ?_
  rw [hsf]
  refine W_istore_n d_153_233 rfl ?_
  refine W_iload_n d_153_234 rfl ?_
  refine W_iconst d_153_235 (v := (-1)) (by decide) ?_
  refine W_icmp_eq (tgt := 247) d_153_236 (by decide) (fun h236 => absurd h236 hn1) (fun h236 => ?_)
  refine W_aload_n d_153_239 rfl (by decide) ?_
  refine W_iload_n d_153_240 rfl ?_
  refine W_callVQ d_153_241 o_153 (Or.inl k_7_165) (by omega) (x_151e (by omega) ht hH htc (by omega) hr4 hs0 he) rfl (mrecv_of rfl o_151.symm) rfl (Nat.le_of_ble_eq_true rfl) ?_
  rintro _ _ ⟨Y2, S2, rfl, f2, rfl, s2⟩
  show Wp _ _ _ _ (.int 1 :: _) _ _
  refine W_if_ne (tgt := 249) d_153_244 (by decide) (fun _ => ?_) (fun h244 => absurd h244 (by decide))
  refine W_iconst d_153_249 (v := 1) (by decide) ?_
  refine W_istore_n d_153_250 rfl ?_
  refine W_iload_n d_153_251 rfl ?_
  refine W_bipush d_153_252 (v := 12) (by decide) ?_
  refine W_icmp_gt (tgt := 261) d_153_254 (by decide) (fun h254 => ?_) (fun h254 => absurd hm h254)
  refine W_iconst d_153_261 (v := 0) (by decide) ?_
  refine W_istore_n d_153_262 rfl ?_
  refine W_goto (tgt := 14) d_153_263 (by decide) ?_
  exact e_next hB hd (hf.t f2.we) s2 ((f2.2.2 23 (by decide)).trans hk.2.1) hlt (by rw [List.length_append, List.length_cons]; omega) hK
theorem t8n (hB : BH f sz tc Y0 S0) (hd : 4 ≤ d) {m : Int32} {H O : List Int32} {s : Nat} {sg : Int32} (h59 : ¬ tok f sz s = 59) (h41 : ¬ tok f sz s = 41) (hg : isg (tok f sz s) = true) (hsg : 10 - cst (tok f sz s) = sg) (hn1 : ¬ sg = -1) (hs0 : ¬ (sg = 0 ∨ sg = 13 ∨ sg = 19)) (hr4 : rnk sg = 4) {a : Int32} {r : List Int32} (he : (unw 5 H).2 = a :: r) (ha : ¬ rnk a = 4) (hm : 12 < sg) (hK : (EW d g N P f sz tc Y0 S0 Q 1 0 (sg :: (unw 5 H).2) (O ++ (unw 5 H).1) (nxt f sz s))) : (EW d g N P f sz tc Y0 S0 Q 0 m H O s) := by
  intro Y S x hE
  obtain ⟨hf, hH, hb, hs, hk⟩ := hE
  have htc : S 14 = nI tc := (hf.2.2 14 (by decide)).trans hB.2.2.2.1
  have ht := hB.2.2.2.2.1
  have hz := hB.2.2.2.2.2.1
  have hi := mtk_i _ (tok_r hs hB.2.2.2.2.2.2)
  have n59 : ¬ S 25 = 59 := fun q => h59 (hi.2.2.2.2.2.1.mp (hk.2.2.1.symm.trans q))
  have n41 : ¬ S 25 = 41 := fun q => h41 (hi.2.2.2.2.2.2.1.mp (hk.2.2.1.symm.trans q))
  have hsf : sof (S 25) = sg := by rw [hk.2.2.1, hi.2.2.2.2.2.2.2.2.2, hg, if_pos rfl, hsg]
  have hlt : s < sz := tok_lt hs (fun q => by rw [q] at hg; exact absurd hg (by decide))
  have hu := unw_len 5 H
  refine W_iload_n d_153_18 rfl ?_
  refine W_if_eq (tgt := 150) d_153_19 (by decide) (fun _ => ?_) (fun h19 => absurd h19 (by decide))
  refine W_aload_n d_153_150 rfl (by decide) ?_
  refine W_getf d_153_151 o_153 k_7_122 rfl rfl ?_
  refine W_bipush d_153_154 (v := 59) (by decide) ?_
  refine W_icmp_ne (tgt := 177) d_153_156 (by decide) (fun h156 => ?_) (fun h156 => absurd h156 n59)
  refine W_aload_n d_153_177 rfl (by decide) ?_
  refine W_getf d_153_178 o_153 k_7_122 rfl rfl ?_
  refine W_bipush d_153_181 (v := 41) (by decide) ?_
  refine W_icmp_ne (tgt := 229) d_153_183 (by decide) (fun h183 => ?_) (fun h183 => absurd h183 n41)
  refine W_aload_n d_153_229 rfl (by decide) ?_
  refine W_callV d_153_230 o_153 (Or.inl k_7_162) (by omega) x_152 rfl (mrecv_of rfl o_152.symm) rfl (Nat.le_of_ble_eq_true rfl) ?_
  rw [hsf]
  refine W_istore_n d_153_233 rfl ?_
  refine W_iload_n d_153_234 rfl ?_
  refine W_iconst d_153_235 (v := (-1)) (by decide) ?_
  refine W_icmp_eq (tgt := 247) d_153_236 (by decide) (fun h236 => absurd h236 hn1) (fun h236 => ?_)
  refine W_aload_n d_153_239 rfl (by decide) ?_
  refine W_iload_n d_153_240 rfl ?_
  refine W_callVQ d_153_241 o_153 (Or.inl k_7_165) (by omega) (x_151n (by omega) ht hH htc (by omega) hr4 hs0 he ha) rfl (mrecv_of rfl o_151.symm) rfl (Nat.le_of_ble_eq_true rfl) ?_
  rintro _ _ ⟨Y2, S2, rfl, f2, rfl, s2⟩
  show Wp _ _ _ _ (.int 1 :: _) _ _
  refine W_if_ne (tgt := 249) d_153_244 (by decide) (fun _ => ?_) (fun h244 => absurd h244 (by decide))
  refine W_iconst d_153_249 (v := 1) (by decide) ?_
  refine W_istore_n d_153_250 rfl ?_
  refine W_iload_n d_153_251 rfl ?_
  refine W_bipush d_153_252 (v := 12) (by decide) ?_
  refine W_icmp_gt (tgt := 261) d_153_254 (by decide) (fun h254 => ?_) (fun h254 => absurd hm h254)
  refine W_iconst d_153_261 (v := 0) (by decide) ?_
  refine W_istore_n d_153_262 rfl ?_
  refine W_goto (tgt := 14) d_153_263 (by decide) ?_
  exact e_next hB hd (hf.t f2.we) s2 ((f2.2.2 23 (by decide)).trans hk.2.1) hlt (by rw [List.length_append, List.length_cons]; omega) hK
theorem t8f (hB : BH f sz tc Y0 S0) (hd : 4 ≤ d) {m : Int32} {H O : List Int32} {s : Nat} {sg : Int32} (h59 : ¬ tok f sz s = 59) (h41 : ¬ tok f sz s = 41) (hg : isg (tok f sz s) = true) (hsg : 10 - cst (tok f sz s) = sg) (hn1 : ¬ sg = -1) (hs0 : ¬ (sg = 0 ∨ sg = 13 ∨ sg = 19)) (hr4 : rnk sg = 4) {a : Int32} {r : List Int32} (he : (unw 5 H).2 = a :: r) (ha : rnk a = 4) (hq : (QF g N P tc Y0 S0 Q s)) : (EW d g N P f sz tc Y0 S0 Q 0 m H O s) := by
  intro Y S x hE
  obtain ⟨hf, hH, hb, hs, hk⟩ := hE
  have htc : S 14 = nI tc := (hf.2.2 14 (by decide)).trans hB.2.2.2.1
  have ht := hB.2.2.2.2.1
  have hz := hB.2.2.2.2.2.1
  have hi := mtk_i _ (tok_r hs hB.2.2.2.2.2.2)
  have n59 : ¬ S 25 = 59 := fun q => h59 (hi.2.2.2.2.2.1.mp (hk.2.2.1.symm.trans q))
  have n41 : ¬ S 25 = 41 := fun q => h41 (hi.2.2.2.2.2.2.1.mp (hk.2.2.1.symm.trans q))
  have hsf : sof (S 25) = sg := by rw [hk.2.2.1, hi.2.2.2.2.2.2.2.2.2, hg, if_pos rfl, hsg]
  have hlt : s < sz := tok_lt hs (fun q => by rw [q] at hg; exact absurd hg (by decide))
  have hu := unw_len 5 H
  refine W_iload_n d_153_18 rfl ?_
  refine W_if_eq (tgt := 150) d_153_19 (by decide) (fun _ => ?_) (fun h19 => absurd h19 (by decide))
  refine W_aload_n d_153_150 rfl (by decide) ?_
  refine W_getf d_153_151 o_153 k_7_122 rfl rfl ?_
  refine W_bipush d_153_154 (v := 59) (by decide) ?_
  refine W_icmp_ne (tgt := 177) d_153_156 (by decide) (fun h156 => ?_) (fun h156 => absurd h156 n59)
  refine W_aload_n d_153_177 rfl (by decide) ?_
  refine W_getf d_153_178 o_153 k_7_122 rfl rfl ?_
  refine W_bipush d_153_181 (v := 41) (by decide) ?_
  refine W_icmp_ne (tgt := 229) d_153_183 (by decide) (fun h183 => ?_) (fun h183 => absurd h183 n41)
  refine W_aload_n d_153_229 rfl (by decide) ?_
  refine W_callV d_153_230 o_153 (Or.inl k_7_162) (by omega) x_152 rfl (mrecv_of rfl o_152.symm) rfl (Nat.le_of_ble_eq_true rfl) ?_
  rw [hsf]
  refine W_istore_n d_153_233 rfl ?_
  refine W_iload_n d_153_234 rfl ?_
  refine W_iconst d_153_235 (v := (-1)) (by decide) ?_
  refine W_icmp_eq (tgt := 247) d_153_236 (by decide) (fun h236 => absurd h236 hn1) (fun h236 => ?_)
  refine W_aload_n d_153_239 rfl (by decide) ?_
  refine W_iload_n d_153_240 rfl ?_
  refine W_callVQ d_153_241 o_153 (Or.inl k_7_165) (by omega) (x_151f (by omega) ht hH htc (by omega) hr4 hs0 he ha) rfl (mrecv_of rfl o_151.symm) rfl (Nat.le_of_ble_eq_true rfl) ?_
  rintro _ _ ⟨Y2, S2, rfl, f2, rfl, s2⟩
  show Wp _ _ _ _ (.int 0 :: _) _ _
  refine W_if_ne (tgt := 249) d_153_244 (by decide) (fun h244 => absurd h244 (by decide)) (fun _ => ?_)
  refine W_iconst d_153_247 (v := 0) (by decide) ?_
  refine W_iret d_153_248 rt_153 rfl ?_
  exact hq Y2 S2 (hf.t f2.we) ((f2.2.2 24 (by decide)).trans hk.1)
end
