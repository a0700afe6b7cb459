/-! TEXTS: the model reads an E, a text (wip/whole/gen81.py) -/
section
variable {d : Nat} {g : mG} {N : Nat} {P : Nat → mC} {f : Nat → Int32} {sz tc : Nat} {Y : tR} {S : Nat → Int32} {Q : Option Value → mM → Prop}
theorem x_153t (hB : BH f sz tc Y S) (hd : 4 ≤ d) {F : Nat} (hF : 1000 ≤ F) {O : List Int32} {s s1 : Nat} {l : List Int32} (hou : S 31 = nI O.length) (hoc : OC (Y 7) (200 * tc) O) (h23 : S 23 = nI (ten f sz s)) (hs : s < sz) (hb : O.length + 0 ≤ s + 1) (hr : pgo f sz F 0 (nxt f sz s) 0 = (true, s1, l)) (h59 : tok f sz s1 = 59) : Wp d 153 0 (ment 153 [.ref 92]) [] (N, H3 g P (mm Y S)) (fun v M => v = some (.int 1) ∧ ∃ Y' S', M = (N, H3 g P (mm Y' S')) ∧ FE tc WE Y S Y' S' ∧ SH tc [] (O ++ l.map cdm) Y' S' ∧ TK f sz s1 S') := by
  have hz := hB.2.2.2.2.2.1
  have nb := nxt_b (f := f) hs
  have g0 : hgt 0 = 5 := by decide
  have key : EW d g N P f sz tc Y S (fun v M => v = some (.int 1) ∧ ∃ Y' S', M = (N, H3 g P (mm Y' S')) ∧ FE tc WE Y S Y' S' ∧ SH tc [] (O ++ l.map cdm) Y' S' ∧ TK f sz s1 S') 1 1 [] O (nxt f sz s) := by
    refine (ceg hB hd F).1 0 (nxt f sz s) 0 1 [] O (by decide) nb.2 rfl (by decide) (by omega) trivial ⟨fun _ => rfl, fun q => absurd q (by decide)⟩ (fun s2 l2 e => ?_) (fun s2 l2 e h O1 hO hh hS m1 => ?_)
    · rw [hr] at e
      cases e
    · rw [hr] at e
      cases e
      have hun : unw 1 (h ++ []) = (h, []) := unw_app (fun a ha => hh a ha) trivial
      refine t6 hB hd h59 (by rw [hun]) (fun Y' S' hf h1 _ _ h2 => ⟨rfl, Y', S', rfl, hf, ?_, h2⟩)
      rw [hun] at h1
      rw [← hO]
      exact h1
  show Wp _ 153 0 [.ref 92, .null, .null, .null] [] _ _
  refine W_aload_n d_153_0 rfl (by decide) ?_
  refine W_iconst d_153_1 (v := 0) (by decide) ?_
  refine W_putf d_153_2 o_153 k_7_135 rfl (Nat.le_of_ble_eq_true rfl) rfl mm_s29 ?_
  refine W_aload_n d_153_5 rfl (by decide) ?_
  refine W_iconst d_153_6 (v := 0) (by decide) ?_
  refine W_putf d_153_7 o_153 k_7_142 rfl (Nat.le_of_ble_eq_true rfl) rfl mm_s30 ?_
  refine W_iconst d_153_10 (v := 1) (by decide) ?_
  refine W_istore_n d_153_11 rfl ?_
  refine W_iconst d_153_12 (v := 1) (by decide) ?_
  refine W_istore_n d_153_13 rfl ?_
  exact e_next (H := []) (O := O) hB hd (FE.s ((Sw.u (by decide)).t (Sw.u (by decide)))) ⟨(va_oth _ _ (by decide)).trans (va_same _ _ _), trivial, va_same _ _ _, (va_oth _ _ (by decide)).trans ((va_oth _ _ (by decide)).trans hou), hoc⟩ ((va_oth _ _ (by decide)).trans ((va_oth _ _ (by decide)).trans h23)) hs hb key
theorem x_153f (hB : BH f sz tc Y S) (hd : 4 ≤ d) {F : Nat} (hF : 1000 ≤ F) {O : List Int32} {s s1 : Nat} {b : Bool} {l : List Int32} (hou : S 31 = nI O.length) (hoc : OC (Y 7) (200 * tc) O) (h23 : S 23 = nI (ten f sz s)) (hs : s < sz) (hb : O.length + 0 ≤ s + 1) (hr : pgo f sz F 0 (nxt f sz s) 0 = (b, s1, l)) (hno : b = false ∨ ¬ tok f sz s1 = 59) : Wp d 153 0 (ment 153 [.ref 92]) [] (N, H3 g P (mm Y S)) (fun v M => v = some (.int 0) ∧ ∃ Y' S', M = (N, H3 g P (mm Y' S')) ∧ FE tc WE Y S Y' S' ∧ S' 24 = nI s1) := by
  have hz := hB.2.2.2.2.2.1
  have nb := nxt_b (f := f) hs
  have g0 : hgt 0 = 5 := by decide
  have key : EW d g N P f sz tc Y S (fun v M => v = some (.int 0) ∧ ∃ Y' S', M = (N, H3 g P (mm Y' S')) ∧ FE tc WE Y S Y' S' ∧ S' 24 = nI s1) 1 1 [] O (nxt f sz s) := by
    refine (ceg hB hd F).1 0 (nxt f sz s) 0 1 [] O (by decide) nb.2 rfl (by decide) (by omega) trivial ⟨fun _ => rfl, fun q => absurd q (by decide)⟩ (fun s2 l2 e => ?_) (fun s2 l2 e h O1 hO hh hS m1 => ?_)
    · rw [hr] at e
      cases e
      exact fun Y' S' hf h1 => ⟨rfl, Y', S', rfl, hf, h1⟩
    · have hq := pgo_ok F _ _ _ _ _ nb.2 e
      rw [hr] at e
      cases e
      have hun : unw 1 (h ++ []) = (h, []) := unw_app (fun a ha => hh a ha) trivial
      exact e_flt hB hd hq.2.1 hS (fun q => absurd q (hno.resolve_left (by decide))) (fun _ => by rw [hun]) (fun Y' S' hf h1 => ⟨rfl, Y', S', rfl, hf, h1⟩)
  show Wp _ 153 0 [.ref 92, .null, .null, .null] [] _ _
  refine W_aload_n d_153_0 rfl (by decide) ?_
  refine W_iconst d_153_1 (v := 0) (by decide) ?_
  refine W_putf d_153_2 o_153 k_7_135 rfl (Nat.le_of_ble_eq_true rfl) rfl mm_s29 ?_
  refine W_aload_n d_153_5 rfl (by decide) ?_
  refine W_iconst d_153_6 (v := 0) (by decide) ?_
  refine W_putf d_153_7 o_153 k_7_142 rfl (Nat.le_of_ble_eq_true rfl) rfl mm_s30 ?_
  refine W_iconst d_153_10 (v := 1) (by decide) ?_
  refine W_istore_n d_153_11 rfl ?_
  refine W_iconst d_153_12 (v := 1) (by decide) ?_
  refine W_istore_n d_153_13 rfl ?_
  exact e_next (H := []) (O := O) hB hd (FE.s ((Sw.u (by decide)).t (Sw.u (by decide)))) ⟨(va_oth _ _ (by decide)).trans (va_same _ _ _), trivial, va_same _ _ _, (va_oth _ _ (by decide)).trans ((va_oth _ _ (by decide)).trans hou), hoc⟩ ((va_oth _ _ (by decide)).trans ((va_oth _ _ (by decide)).trans h23)) hs hb key
def FX (tc : Nat) (W : List Nat) (Y : tR) (S : Nat → Int32) (Y' : tR) (S' : Nat → Int32) : Prop := (∀ i, ¬ (i = 7 ∨ i = 8 ∨ i = 16) → Y' i = Y i) ∧ (∀ k, k < 200 * tc → Y' 7 k = Y 7 k) ∧ (∀ k, k < 4 * tc → Y' 8 k = Y 8 k) ∧ Sw S S' W
theorem FX.t {tc : Nat} {W : List Nat} {Y Y1 Y2 : tR} {S S1 S2 : Nat → Int32} (h : FX tc W Y S Y1 S1) (k : FX tc W Y1 S1 Y2 S2) : FX tc W Y S Y2 S2 := ⟨fun i hi => (k.1 i hi).trans (h.1 i hi), fun i hi => (k.2.1 i hi).trans (h.2.1 i hi), fun i hi => (k.2.2.1 i hi).trans (h.2.2.1 i hi), h.2.2.2.t k.2.2.2⟩
theorem FE.x {tc : Nat} {W : List Nat} {Y Y1 : tR} {S S1 : Nat → Int32} (h : FE tc W Y S Y1 S1) : FX tc W Y S Y1 S1 := ⟨fun i hi => h.1 i (fun q => hi (q.elim Or.inl (fun q => Or.inr (Or.inr q)))), h.2.1, fun k _ => congrFun (h.1 8 (by decide)) k, h.2.2⟩
theorem FX.y8 {tc p : Nat} {W : List Nat} {Y : tR} {S : Nat → Int32} {v : Int32} : FX tc W Y S (u2 Y 8 (4 * tc + p) v) S := ⟨fun i hi => u2_row (fun q => hi (Or.inr (Or.inl q))), fun k _ => by rw [u2_row (by decide)], fun k hk => by rw [u2_rw, va_oth _ _ (by omega)], Sw.refl⟩
theorem FX.s {tc : Nat} {W : List Nat} {Y : tR} {S S1 : Nat → Int32} (h : Sw S S1 W) : FX tc W Y S Y S1 := ⟨fun _ _ => rfl, fun _ _ => rfl, fun _ _ => rfl, h⟩
theorem FX.up {tc : Nat} {W V : List Nat} {Y Y1 : tR} {S S1 : Nat → Int32} (h : FX tc W Y S Y1 S1) (hV : ∀ c, c ∉ V → c ∉ W) : FX tc V Y S Y1 S1 := ⟨h.1, h.2.1, h.2.2.1, fun c hc => h.2.2.2 c (hV c hc)⟩
theorem BH.x {f : Nat → Int32} {sz tc : Nat} {Y Y1 : tR} {S S1 : Nat → Int32} (h : BH f sz tc Y S) (k : FX tc WE Y S Y1 S1) : BH f sz tc Y1 S1 := ⟨(k.1 6 (by decide)).trans h.1, (k.1 15 (by decide)).trans h.2.1, (k.2.2.2 11 (by decide)).trans h.2.2.1, (k.2.2.2 14 (by decide)).trans h.2.2.2.1, h.2.2.2.2⟩
theorem mpart_t (hB : BH f sz tc Y S) (hd : 5 ≤ d) {F : Nat} (hF : 1000 ≤ F) {p i s s1 : Nat} {O l : List Int32} (hp : p < 3) (hi : i ≤ sz) (hsi : s = tst f sz i) (h23 : S 23 = nI i) (hou : S 31 = nI O.length) (hoc : OC (Y 7) (200 * tc) O) (hO : O.length ≤ s) (hr : pprt f sz F p s = (true, s1, l)) (kk : ∀ (Y' : tR) (S' : Nat → Int32) (s' : Nat), FX tc WE Y S Y' S' → S' 23 = nI (ten f sz s') → s' ≤ sz → s1 = nxt f sz s' → S' 31 = nI (O ++ l.map cdm).length → OC (Y' 7) (200 * tc) (O ++ l.map cdm) → Y' 8 (4 * tc + p) = nI O.length → (∀ k, ¬ k = 4 * tc + p → Y' 8 k = Y 8 k) → Wp d 154 95 [.ref 92, .int 1, .int (nI p)] [] (N, H3 g P (mm Y' S')) Q) : Wp d 154 35 [.ref 92, .int 1, .int (nI p)] [] (N, H3 g P (mm Y S)) Q := by
  have hY6 := hB.1
  have hz := hB.2.2.2.2.2.1
  have htc := hB.2.2.2.1
  have ht := hB.2.2.2.2.1
  have hb := tst_b (f := f) hi
  rw [← hsi] at hb
  have hby : ∀ k, k < sz → 0 ≤ Y 6 k ∧ Y 6 k ≤ 255 := by
    rw [hY6]
    exact hB.2.2.2.2.2.2
  have hmi := mtk_i _ (tok_r (f := f) hb.2 hB.2.2.2.2.2.2)
  obtain ⟨_, _, _, hk, s', hpg, h59, hn'⟩ := pprt_ok hp hb.2 hr
  have hlt : s < sz := tok_v hb.2 hk (nI_nm (by omega))
  have hs' := (pgo_ok F _ _ _ _ _ (nxt_b (f := f) hlt).2 hpg).2.1
  have hr02 : 0 ≤ tok f sz s ∧ tok f sz s ≤ 2 := by
    rw [hk]
    exact ⟨nI_pos' (by omega), nI_le (a := p) (b := 2) (by omega) (by decide)⟩
  refine W_aload_n d_154_35 rfl (by decide) ?_
  refine W_callVQ d_154_36 o_154 (Or.inl k_7_155) (by omega) (x_145 (by omega) hB.2.1 hz hby hi h23 hB.2.2.1) rfl (mrecv_of rfl o_145.symm) rfl (Nat.le_of_ble_eq_true rfl) ?_
  rintro _ _ ⟨rfl, S2, rfl, r, e1, e2, e3, e4⟩
  rw [hY6, ← hsi] at e1 e2 e3 e4
  have h3 : S2 25 = 3 := e3.trans (hmi.2.2.2.2.2.2.2.1.mpr hr02)
  refine W_aload_n d_154_39 rfl (by decide) ?_
  refine W_getf d_154_40 o_154 k_7_122 rfl rfl ?_
  refine W_iconst d_154_43 (v := 3) (by decide) ?_
  refine W_icmp_ne (tgt := 59) d_154_44 (by decide) (fun h44 => absurd h3 h44) (fun h44 => ?_)
  refine W_aload_n d_154_47 rfl (by decide) ?_
  refine W_getf d_154_48 o_154 k_7_125 rfl rfl ?_
  rw [show S2 26 = nI p from (e4.1 hr02).trans hk]
  refine W_iload_n d_154_51 rfl ?_
  refine W_icmp_ne (tgt := 59) d_154_52 (by decide) (fun h52 => absurd rfl h52) (fun h52 => ?_)
  refine W_iconst d_154_55 (v := 1) (by decide) ?_
  refine W_goto (tgt := 60) d_154_56 (by decide) ?_
  refine W_istore_n d_154_60 rfl ?_
  refine W_aload_n d_154_61 rfl (by decide) ?_
  refine W_getf d_154_62 o_154 k_7_38 rfl rfl ?_
  refine W_iconst d_154_65 (v := 4) (by decide) ?_
  refine W_aload_n d_154_66 rfl (by decide) ?_
  refine W_getf d_154_67 o_154 k_7_106 rfl rfl ?_
  rw [show S2 14 = nI tc from (r 14 (by decide)).trans htc]
  refine W_imul d_154_70 ?_
  rw [show ((4 * nI tc : Int32)) = nI (4 * tc) from pk_mul 4 tc]
  refine W_iload_n d_154_71 rfl ?_
  refine W_iadd d_154_72 ?_
  rw [show ((nI (4 * tc) + nI p : Int32)) = nI (4 * tc + p) from nI_add (4 * tc) p]
  refine W_aload_n d_154_73 rfl (by decide) ?_
  refine W_getf d_154_74 o_154 k_7_132 rfl rfl ?_
  rw [show S2 31 = nI O.length from (r 31 (by decide)).trans hou]
  refine W_mst (a := 8) d_154_77 rfl (by decide) (n := 24) rfl (vp_in_nI (by omega) (by decide)) (nI_clamp (by omega)) ?_
  have fx0 : FX tc WE Y S (u2 Y 8 (4 * tc + p) (nI O.length)) S2 := (FX.s r.we).t FX.y8
  have hB2 := hB.x fx0
  have o1 : S2 31 = nI O.length := (r 31 (by decide)).trans hou
  have o2 : OC (u2 Y 8 (4 * tc + p) (nI O.length) 7) (200 * tc) O := by rw [u2_row (by decide)]; exact hoc
  refine W_iload_n d_154_78 rfl ?_
  refine W_if_eq (tgt := 93) d_154_79 (by decide) (fun h79 => absurd h79 (by decide)) (fun _ => ?_)
  refine W_aload_n d_154_82 rfl (by decide) ?_
  refine W_callVQ d_154_83 o_154 (Or.inl k_7_168) (by omega) (x_153t hB2 (by omega) hF o1 o2 e2 hlt (by omega) hpg h59) rfl (mrecv_of rfl o_153.symm) rfl (Nat.le_of_ble_eq_true rfl) ?_
  rintro _ _ ⟨rfl, Y4, S4, rfl, f4, s4, k4⟩
  show Wp _ _ _ _ (.int 1 :: _) _ _
  refine W_if_eq (tgt := 93) d_154_86 (by decide) (fun h86 => absurd h86 (by decide)) (fun _ => ?_)
  refine W_iconst d_154_89 (v := 1) (by decide) ?_
  refine W_goto (tgt := 94) d_154_90 (by decide) ?_
  refine W_istore_n d_154_94 rfl ?_
  refine kk Y4 S4 s' (fx0.t f4.x) k4.2.1 hs' hn' s4.2.2.2.1 s4.2.2.2.2 ?_ (fun k hk' => ?_)
  · rw [f4.1 8 (by decide), u2_rw, va_same]
  · rw [f4.1 8 (by decide), u2_rw, va_oth _ _ hk']
theorem mpart_f (hB : BH f sz tc Y S) (hd : 5 ≤ d) {F : Nat} (hF : 1000 ≤ F) {p i s s1 : Nat} {O l : List Int32} (hp : p < 3) (hi : i ≤ sz) (hsi : s = tst f sz i) (h23 : S 23 = nI i) (hou : S 31 = nI O.length) (hoc : OC (Y 7) (200 * tc) O) (hO : O.length ≤ s) (hr : pprt f sz F p s = (false, s1, l)) (kk : ∀ (Y' : tR) (S' : Nat → Int32), FX tc WE Y S Y' S' → S' 24 = nI s1 → Wp d 154 95 [.ref 92, .int 0, .int (nI p)] [] (N, H3 g P (mm Y' S')) Q) : Wp d 154 35 [.ref 92, .int 1, .int (nI p)] [] (N, H3 g P (mm Y S)) Q := by
  have hY6 := hB.1
  have hz := hB.2.2.2.2.2.1
  have htc := hB.2.2.2.1
  have ht := hB.2.2.2.2.1
  have hb := tst_b (f := f) hi
  rw [← hsi] at hb
  have hby : ∀ k, k < sz → 0 ≤ Y 6 k ∧ Y 6 k ≤ 255 := by
    rw [hY6]
    exact hB.2.2.2.2.2.2
  have hmi := mtk_i _ (tok_r (f := f) hb.2 hB.2.2.2.2.2.2)
  unfold pprt at hr
  by_cases hk : tok f sz s = nI p
  · rw [if_pos hk] at hr
    have hlt : s < sz := tok_v hb.2 hk (nI_nm (by omega))
    have hr02 : 0 ≤ tok f sz s ∧ tok f sz s ≤ 2 := by
      rw [hk]
      exact ⟨nI_pos' (by omega), nI_le (a := p) (b := 2) (by omega) (by decide)⟩
    obtain ⟨b, s2, l2, hpg⟩ := tri (pgo f sz F 0 (nxt f sz s) 0)
    have hno : (b = false ∨ ¬ tok f sz s2 = 59) ∧ s2 = s1 := by
      rw [hpg] at hr
      cases b with
      | false =>
        rw [pbd_f] at hr
        cases hr
        exact ⟨Or.inl rfl, rfl⟩
      | true =>
        rw [pbd_t] at hr
        by_cases hu : tok f sz s2 = 59
        · rw [if_pos hu] at hr
          cases hr
        · rw [if_neg hu] at hr
          cases hr
          exact ⟨Or.inr hu, rfl⟩
    obtain ⟨hno, rfl⟩ := hno
    refine W_aload_n d_154_35 rfl (by decide) ?_
    refine W_callVQ d_154_36 o_154 (Or.inl k_7_155) (by omega) (x_145 (by omega) hB.2.1 hz hby hi h23 hB.2.2.1) rfl (mrecv_of rfl o_145.symm) rfl (Nat.le_of_ble_eq_true rfl) ?_
    rintro _ _ ⟨rfl, S2, rfl, r, e1, e2, e3, e4⟩
    rw [hY6, ← hsi] at e1 e2 e3 e4
    have h3 : S2 25 = 3 := e3.trans (hmi.2.2.2.2.2.2.2.1.mpr hr02)
    refine W_aload_n d_154_39 rfl (by decide) ?_
    refine W_getf d_154_40 o_154 k_7_122 rfl rfl ?_
    refine W_iconst d_154_43 (v := 3) (by decide) ?_
    refine W_icmp_ne (tgt := 59) d_154_44 (by decide) (fun h44 => absurd h3 h44) (fun h44 => ?_)
    refine W_aload_n d_154_47 rfl (by decide) ?_
    refine W_getf d_154_48 o_154 k_7_125 rfl rfl ?_
    rw [show S2 26 = nI p from (e4.1 hr02).trans hk]
    refine W_iload_n d_154_51 rfl ?_
    refine W_icmp_ne (tgt := 59) d_154_52 (by decide) (fun h52 => absurd rfl h52) (fun h52 => ?_)
    refine W_iconst d_154_55 (v := 1) (by decide) ?_
    refine W_goto (tgt := 60) d_154_56 (by decide) ?_
    refine W_istore_n d_154_60 rfl ?_
    refine W_aload_n d_154_61 rfl (by decide) ?_
    refine W_getf d_154_62 o_154 k_7_38 rfl rfl ?_
    refine W_iconst d_154_65 (v := 4) (by decide) ?_
    refine W_aload_n d_154_66 rfl (by decide) ?_
    refine W_getf d_154_67 o_154 k_7_106 rfl rfl ?_
    rw [show S2 14 = nI tc from (r 14 (by decide)).trans htc]
    refine W_imul d_154_70 ?_
    rw [show ((4 * nI tc : Int32)) = nI (4 * tc) from pk_mul 4 tc]
    refine W_iload_n d_154_71 rfl ?_
    refine W_iadd d_154_72 ?_
    rw [show ((nI (4 * tc) + nI p : Int32)) = nI (4 * tc + p) from nI_add (4 * tc) p]
    refine W_aload_n d_154_73 rfl (by decide) ?_
    refine W_getf d_154_74 o_154 k_7_132 rfl rfl ?_
    rw [show S2 31 = nI O.length from (r 31 (by decide)).trans hou]
    refine W_mst (a := 8) d_154_77 rfl (by decide) (n := 24) rfl (vp_in_nI (by omega) (by decide)) (nI_clamp (by omega)) ?_
    have fx0 : FX tc WE Y S (u2 Y 8 (4 * tc + p) (nI O.length)) S2 := (FX.s r.we).t FX.y8
    have hB2 := hB.x fx0
    have o1 : S2 31 = nI O.length := (r 31 (by decide)).trans hou
    have o2 : OC (u2 Y 8 (4 * tc + p) (nI O.length) 7) (200 * tc) O := by rw [u2_row (by decide)]; exact hoc
    refine W_iload_n d_154_78 rfl ?_
    refine W_if_eq (tgt := 93) d_154_79 (by decide) (fun h79 => absurd h79 (by decide)) (fun _ => ?_)
    refine W_aload_n d_154_82 rfl (by decide) ?_
    refine W_callVQ d_154_83 o_154 (Or.inl k_7_168) (by omega) (x_153f hB2 (by omega) hF o1 o2 e2 hlt (by omega) hpg hno) rfl (mrecv_of rfl o_153.symm) rfl (Nat.le_of_ble_eq_true rfl) ?_
    rintro _ _ ⟨rfl, Y4, S4, rfl, f4, k4⟩
    show Wp _ _ _ _ (.int 0 :: _) _ _
    refine W_if_eq (tgt := 93) d_154_86 (by decide) (fun _ => ?_) (fun h86 => absurd h86 (by decide))
    refine W_iconst d_154_93 (v := 0) (by decide) ?_
    refine W_istore_n d_154_94 rfl ?_
    exact kk Y4 S4 (fx0.t f4.x) k4
  · rw [if_neg hk] at hr
    cases hr
    by_cases hr02 : 0 ≤ tok f sz s ∧ tok f sz s ≤ 2
    · skip
      refine W_aload_n d_154_35 rfl (by decide) ?_
      refine W_callVQ d_154_36 o_154 (Or.inl k_7_155) (by omega) (x_145 (by omega) hB.2.1 hz hby hi h23 hB.2.2.1) rfl (mrecv_of rfl o_145.symm) rfl (Nat.le_of_ble_eq_true rfl) ?_
      rintro _ _ ⟨rfl, S2, rfl, r, e1, e2, e3, e4⟩
      rw [hY6, ← hsi] at e1 e2 e3 e4
      have h3 : S2 25 = 3 := e3.trans (hmi.2.2.2.2.2.2.2.1.mpr hr02)
      have h26 : ¬ S2 26 = nI p := fun q => hk ((e4.1 hr02).symm.trans q)
      refine W_aload_n d_154_39 rfl (by decide) ?_
      refine W_getf d_154_40 o_154 k_7_122 rfl rfl ?_
      refine W_iconst d_154_43 (v := 3) (by decide) ?_
      refine W_icmp_ne (tgt := 59) d_154_44 (by decide) (fun h44 => absurd h3 h44) (fun h44 => ?_)
      refine W_aload_n d_154_47 rfl (by decide) ?_
      refine W_getf d_154_48 o_154 k_7_125 rfl rfl ?_
      refine W_iload_n d_154_51 rfl ?_
      refine W_icmp_ne (tgt := 59) d_154_52 (by decide) (fun h52 => ?_) (fun h52 => absurd h52 h26)
      refine W_iconst d_154_59 (v := 0) (by decide) ?_
      refine W_istore_n d_154_60 rfl ?_
      refine W_aload_n d_154_61 rfl (by decide) ?_
      refine W_getf d_154_62 o_154 k_7_38 rfl rfl ?_
      refine W_iconst d_154_65 (v := 4) (by decide) ?_
      refine W_aload_n d_154_66 rfl (by decide) ?_
      refine W_getf d_154_67 o_154 k_7_106 rfl rfl ?_
      rw [show S2 14 = nI tc from (r 14 (by decide)).trans htc]
      refine W_imul d_154_70 ?_
      rw [show ((4 * nI tc : Int32)) = nI (4 * tc) from pk_mul 4 tc]
      refine W_iload_n d_154_71 rfl ?_
      refine W_iadd d_154_72 ?_
      rw [show ((nI (4 * tc) + nI p : Int32)) = nI (4 * tc + p) from nI_add (4 * tc) p]
      refine W_aload_n d_154_73 rfl (by decide) ?_
      refine W_getf d_154_74 o_154 k_7_132 rfl rfl ?_
      rw [show S2 31 = nI O.length from (r 31 (by decide)).trans hou]
      refine W_mst (a := 8) d_154_77 rfl (by decide) (n := 24) rfl (vp_in_nI (by omega) (by decide)) (nI_clamp (by omega)) ?_
      have fx0 : FX tc WE Y S (u2 Y 8 (4 * tc + p) (nI O.length)) S2 := (FX.s r.we).t FX.y8
      have hB2 := hB.x fx0
      have o1 : S2 31 = nI O.length := (r 31 (by decide)).trans hou
      have o2 : OC (u2 Y 8 (4 * tc + p) (nI O.length) 7) (200 * tc) O := by rw [u2_row (by decide)]; exact hoc
      refine W_iload_n d_154_78 rfl ?_
      refine W_if_eq (tgt := 93) d_154_79 (by decide) (fun _ => ?_) (fun h79 => absurd h79 (by decide))
      refine W_iconst d_154_93 (v := 0) (by decide) ?_
      refine W_istore_n d_154_94 rfl ?_
      exact kk _ S2 fx0 e1
    · skip
      refine W_aload_n d_154_35 rfl (by decide) ?_
      refine W_callVQ d_154_36 o_154 (Or.inl k_7_155) (by omega) (x_145 (by omega) hB.2.1 hz hby hi h23 hB.2.2.1) rfl (mrecv_of rfl o_145.symm) rfl (Nat.le_of_ble_eq_true rfl) ?_
      rintro _ _ ⟨rfl, S2, rfl, r, e1, e2, e3, e4⟩
      rw [hY6, ← hsi] at e1 e2 e3 e4
      have h3 : ¬ S2 25 = 3 := fun q => hr02 (hmi.2.2.2.2.2.2.2.1.mp (e3.symm.trans q))
      refine W_aload_n d_154_39 rfl (by decide) ?_
      refine W_getf d_154_40 o_154 k_7_122 rfl rfl ?_
      refine W_iconst d_154_43 (v := 3) (by decide) ?_
      refine W_icmp_ne (tgt := 59) d_154_44 (by decide) (fun h44 => ?_) (fun h44 => absurd h44 h3)
      refine W_iconst d_154_59 (v := 0) (by decide) ?_
      refine W_istore_n d_154_60 rfl ?_
      refine W_aload_n d_154_61 rfl (by decide) ?_
      refine W_getf d_154_62 o_154 k_7_38 rfl rfl ?_
      refine W_iconst d_154_65 (v := 4) (by decide) ?_
      refine W_aload_n d_154_66 rfl (by decide) ?_
      refine W_getf d_154_67 o_154 k_7_106 rfl rfl ?_
      rw [show S2 14 = nI tc from (r 14 (by decide)).trans htc]
      refine W_imul d_154_70 ?_
      rw [show ((4 * nI tc : Int32)) = nI (4 * tc) from pk_mul 4 tc]
      refine W_iload_n d_154_71 rfl ?_
      refine W_iadd d_154_72 ?_
      rw [show ((nI (4 * tc) + nI p : Int32)) = nI (4 * tc + p) from nI_add (4 * tc) p]
      refine W_aload_n d_154_73 rfl (by decide) ?_
      refine W_getf d_154_74 o_154 k_7_132 rfl rfl ?_
      rw [show S2 31 = nI O.length from (r 31 (by decide)).trans hou]
      refine W_mst (a := 8) d_154_77 rfl (by decide) (n := 24) rfl (vp_in_nI (by omega) (by decide)) (nI_clamp (by omega)) ?_
      have fx0 : FX tc WE Y S (u2 Y 8 (4 * tc + p) (nI O.length)) S2 := (FX.s r.we).t FX.y8
      have hB2 := hB.x fx0
      have o1 : S2 31 = nI O.length := (r 31 (by decide)).trans hou
      have o2 : OC (u2 Y 8 (4 * tc + p) (nI O.length) 7) (200 * tc) O := by rw [u2_row (by decide)]; exact hoc
      refine W_iload_n d_154_78 rfl ?_
      refine W_if_eq (tgt := 93) d_154_79 (by decide) (fun _ => ?_) (fun h79 => absurd h79 (by decide))
      refine W_iconst d_154_93 (v := 0) (by decide) ?_
      refine W_istore_n d_154_94 rfl ?_
      exact kk _ S2 fx0 e1
def WX : List Nat := [11, 14, 23, 24, 25, 26, 29, 30, 31]
theorem FX.wx {tc : Nat} {Y Y1 : tR} {S S1 : Nat → Int32} (h : FX tc WE Y S Y1 S1) : FX tc WX Y S Y1 S1 := h.up (fun c hc q => hc (by unfold WX; unfold WE at q; simp at q ⊢; omega))
theorem x_154f (h6 : S 14 = nI 6) : Ex d 154 [.ref 92] (N, H3 g P (mm Y S)) (some (.int (-4))) (N, H3 g P (mm Y S)) := by
  refine Ex.of ?_
  show Wp _ 154 0 [.ref 92, .null, .null] [] _ _
  refine W_aload_n d_154_0 rfl (by decide) ?_
  refine W_getf d_154_1 o_154 k_7_106 rfl rfl ?_
  rw [h6]
  refine W_bipush d_154_4 (v := 6) (by decide) ?_
  refine W_icmp_ne (tgt := 12) d_154_6 (by decide) (fun h6 => absurd rfl h6) (fun h6 => ?_)
  refine W_bipush d_154_9 (v := (-4)) (by decide) ?_
  refine W_iret d_154_11 rt_154 rfl ?_
  exact ⟨rfl, rfl⟩
theorem x_154_0 (hB : BH f sz tc Y S) (hd : 5 ≤ d) {F : Nat} (hF : 1000 ≤ F) {s1 : Nat} {l0 : List Int32} (hr0 : pprt f sz F 0 (tst f sz 0) = (false, s1, l0)) : Wp d 154 0 (ment 154 [.ref 92]) [] (N, H3 g P (mm Y S)) (fun v M => v = some (.int (-100 - nI s1)) ∧ ∃ Y' S', M = (N, H3 g P (mm Y' S')) ∧ FX tc WX Y S Y' S' ∧ S' 11 = 0 ∧ S' 14 = nI tc) := by
  have hz := hB.2.2.2.2.2.1
  have ht := hB.2.2.2.2.1
  have fa : FX tc WE Y S Y (va_up (va_up S 23 0) 31 0) := FX.s ((Sw.u (by decide)).t (Sw.u (by decide)))
  have hBa := hB.x fa
  have hs0 : tst f sz 0 ≤ sz := (tst_b (Nat.zero_le _)).2
  show Wp _ 154 0 [.ref 92, .null, .null] [] _ _
  refine W_aload_n d_154_0 rfl (by decide) ?_
  refine W_getf d_154_1 o_154 k_7_106 rfl rfl ?_
  rw [hB.2.2.2.1]
  refine W_bipush d_154_4 (v := 6) (by decide) ?_
  refine W_icmp_ne (tgt := 12) d_154_6 (by decide) (fun h6 => ?_) (fun h6 => absurd h6 (fun q => absurd ((nI_eq (a := tc) (b := 6) (by omega) (by omega)).mp q) (show ¬ tc = 6 by omega)))
  refine W_aload_n d_154_12 rfl (by decide) ?_
  refine W_iconst d_154_13 (v := 0) (by decide) ?_
  refine W_putf d_154_14 o_154 k_7_116 rfl (Nat.le_of_ble_eq_true rfl) rfl mm_s23 ?_
  refine W_aload_n d_154_17 rfl (by decide) ?_
  refine W_iconst d_154_18 (v := 0) (by decide) ?_
  refine W_putf d_154_19 o_154 k_7_132 rfl (Nat.le_of_ble_eq_true rfl) rfl mm_s31 ?_
  refine W_iconst d_154_22 (v := 1) (by decide) ?_
  refine W_istore_n d_154_23 rfl ?_
  refine W_iconst d_154_24 (v := 0) (by decide) ?_
  refine W_istore_n d_154_25 rfl ?_
  refine W_iload_n d_154_26 rfl ?_
  refine W_iconst d_154_27 (v := 3) (by decide) ?_
  refine W_icmp_ge (tgt := 101) d_154_28 (by decide) (fun h28 => absurd h28 (by decide)) (fun _ => ?_)
  refine W_iload_n d_154_31 rfl ?_
  refine W_if_eq (tgt := 101) d_154_32 (by decide) (fun h32 => absurd h32 (by decide)) (fun _ => ?_)
  refine mpart_f hBa (by omega) hF (p := 0) (i := 0) (s := tst f sz 0) (O := []) (by decide) (Nat.zero_le _) rfl ((va_oth _ _ (by decide)).trans (va_same _ _ _)) (va_same _ _ _) (fun k hk => absurd hk (Nat.not_lt_zero _)) (Nat.zero_le _) hr0 (fun Y9 T9 f9 e9 => ?_)
  have g9 := fa.t f9
  show Wp _ 154 95 [.ref 92, .int 0, .int 0] [] _ _
  refine W_iinc (v := 1) d_154_95 rfl (by decide) rfl ?_
  rw [show ((0 + 1 : Int32)) = 1 from by decide]
  refine W_goto (tgt := 26) d_154_98 (by decide) ?_
  refine W_iload_n d_154_26 rfl ?_
  refine W_iconst d_154_27 (v := 3) (by decide) ?_
  refine W_icmp_ge (tgt := 101) d_154_28 (by decide) (fun h28 => absurd h28 (by decide)) (fun _ => ?_)
  refine W_iload_n d_154_31 rfl ?_
  refine W_if_eq (tgt := 101) d_154_32 (by decide) (fun _ => ?_) (fun h32 => absurd h32 (by decide))
  refine W_iload_n d_154_101 rfl ?_
  refine W_if_eq (tgt := 122) d_154_102 (by decide) (fun _ => ?_) (fun h102 => absurd h102 (by decide))
  refine W_aload_n d_154_122 rfl (by decide) ?_
  refine W_getf d_154_123 o_154 k_7_38 rfl rfl ?_
  refine W_iconst d_154_126 (v := 4) (by decide) ?_
  refine W_aload_n d_154_127 rfl (by decide) ?_
  refine W_getf d_154_128 o_154 k_7_106 rfl rfl ?_
  rw [show T9 14 = nI tc from (g9.2.2.2 14 (by decide)).trans hB.2.2.2.1]
  refine W_imul d_154_131 ?_
  rw [show ((4 * nI tc : Int32)) = nI (4 * tc) from pk_mul 4 tc]
  refine W_iconst d_154_132 (v := 3) (by decide) ?_
  refine W_iadd d_154_133 ?_
  rw [show ((nI (4 * tc) + 3 : Int32)) = nI (4 * tc + 3) from nI_add (4 * tc) 3]
  refine W_aload_n d_154_134 rfl (by decide) ?_
  refine W_getf d_154_135 o_154 k_7_132 rfl rfl ?_
  refine W_mst (a := 8) d_154_138 rfl (by decide) (n := 24) rfl (vp_in_nI (by omega) (by decide)) (nI_clamp (by omega)) ?_
  refine W_aload_n d_154_139 rfl (by decide) ?_
  refine W_iconst d_154_140 (v := 0) (by decide) ?_
  refine W_putf d_154_141 o_154 k_7_86 rfl (Nat.le_of_ble_eq_true rfl) rfl mm_s11 ?_
  refine W_iload_n d_154_144 rfl ?_
  refine W_if_ne (tgt := 156) d_154_145 (by decide) (fun h145 => absurd h145 (by decide)) (fun _ => ?_)
  refine W_bipush d_154_148 (v := (-100)) (by decide) ?_
  refine W_aload_n d_154_150 rfl (by decide) ?_
  refine W_getf d_154_151 o_154 k_7_119 rfl rfl ?_
  rw [va_oth _ _ (by decide), e9]
  refine W_isub d_154_154 ?_
  refine W_iret d_154_155 rt_154 rfl ?_
  refine ⟨rfl, _, _, rfl, g9.wx.t (FX.y8.t (FX.s (Sw.u (by decide)))), va_same _ _ _, ?_⟩
  exact (va_oth _ _ (by decide)).trans ((g9.2.2.2 14 (by decide)).trans hB.2.2.2.1)
theorem x_154_1 (hB : BH f sz tc Y S) (hd : 5 ≤ d) {F : Nat} (hF : 1000 ≤ F) {s1 s2 : Nat} {l0 l1 : List Int32} (hr0 : pprt f sz F 0 (tst f sz 0) = (true, s1, l0)) (hr1 : pprt f sz F 1 s1 = (false, s2, l1)) : Wp d 154 0 (ment 154 [.ref 92]) [] (N, H3 g P (mm Y S)) (fun v M => v = some (.int (-100 - nI s2)) ∧ ∃ Y' S', M = (N, H3 g P (mm Y' S')) ∧ FX tc WX Y S Y' S' ∧ S' 11 = 0 ∧ S' 14 = nI tc) := by
  have hz := hB.2.2.2.2.2.1
  have ht := hB.2.2.2.2.1
  have fa : FX tc WE Y S Y (va_up (va_up S 23 0) 31 0) := FX.s ((Sw.u (by decide)).t (Sw.u (by decide)))
  have hBa := hB.x fa
  have hs0 : tst f sz 0 ≤ sz := (tst_b (Nat.zero_le _)).2
  have q0 := pprt_ok (p := 0) (by decide) hs0 hr0
  show Wp _ 154 0 [.ref 92, .null, .null] [] _ _
  refine W_aload_n d_154_0 rfl (by decide) ?_
  refine W_getf d_154_1 o_154 k_7_106 rfl rfl ?_
  rw [hB.2.2.2.1]
  refine W_bipush d_154_4 (v := 6) (by decide) ?_
  refine W_icmp_ne (tgt := 12) d_154_6 (by decide) (fun h6 => ?_) (fun h6 => absurd h6 (fun q => absurd ((nI_eq (a := tc) (b := 6) (by omega) (by omega)).mp q) (show ¬ tc = 6 by omega)))
  refine W_aload_n d_154_12 rfl (by decide) ?_
  refine W_iconst d_154_13 (v := 0) (by decide) ?_
  refine W_putf d_154_14 o_154 k_7_116 rfl (Nat.le_of_ble_eq_true rfl) rfl mm_s23 ?_
  refine W_aload_n d_154_17 rfl (by decide) ?_
  refine W_iconst d_154_18 (v := 0) (by decide) ?_
  refine W_putf d_154_19 o_154 k_7_132 rfl (Nat.le_of_ble_eq_true rfl) rfl mm_s31 ?_
  refine W_iconst d_154_22 (v := 1) (by decide) ?_
  refine W_istore_n d_154_23 rfl ?_
  refine W_iconst d_154_24 (v := 0) (by decide) ?_
  refine W_istore_n d_154_25 rfl ?_
  refine W_iload_n d_154_26 rfl ?_
  refine W_iconst d_154_27 (v := 3) (by decide) ?_
  refine W_icmp_ge (tgt := 101) d_154_28 (by decide) (fun h28 => absurd h28 (by decide)) (fun _ => ?_)
  refine W_iload_n d_154_31 rfl ?_
  refine W_if_eq (tgt := 101) d_154_32 (by decide) (fun h32 => absurd h32 (by decide)) (fun _ => ?_)
  refine mpart_t hBa (by omega) hF (p := 0) (i := 0) (s := tst f sz 0) (O := []) (by decide) (Nat.zero_le _) rfl ((va_oth _ _ (by decide)).trans (va_same _ _ _)) (va_same _ _ _) (fun k hk => absurd hk (Nat.not_lt_zero _)) (Nat.zero_le _) hr0 (fun Y0 T0 t0 f0 a0 c0 d0 o0 u0 z0 y0 => ?_)
  have g0 := fa.t f0
  have b0 := hB.x g0
  show Wp _ 154 95 [.ref 92, .int 1, .int 0] [] _ _
  refine W_iinc (v := 1) d_154_95 rfl (by decide) rfl ?_
  rw [show ((0 + 1 : Int32)) = 1 from by decide]
  refine W_goto (tgt := 26) d_154_98 (by decide) ?_
  refine W_iload_n d_154_26 rfl ?_
  refine W_iconst d_154_27 (v := 3) (by decide) ?_
  refine W_icmp_ge (tgt := 101) d_154_28 (by decide) (fun h28 => absurd h28 (by decide)) (fun _ => ?_)
  refine W_iload_n d_154_31 rfl ?_
  refine W_if_eq (tgt := 101) d_154_32 (by decide) (fun h32 => absurd h32 (by decide)) (fun _ => ?_)
  refine mpart_f b0 (by omega) hF (p := 1) (i := ten f sz t0) (O := ([] ++ l0.map cdm)) (by decide) (ten_c c0).2 d0 a0 o0 u0 (by rw [List.length_append, List.length_map, List.length_nil]; omega) hr1 (fun Y9 T9 f9 e9 => ?_)
  have g9 := g0.t f9
  show Wp _ 154 95 [.ref 92, .int 0, .int 1] [] _ _
  refine W_iinc (v := 1) d_154_95 rfl (by decide) rfl ?_
  rw [show ((1 + 1 : Int32)) = 2 from by decide]
  refine W_goto (tgt := 26) d_154_98 (by decide) ?_
  refine W_iload_n d_154_26 rfl ?_
  refine W_iconst d_154_27 (v := 3) (by decide) ?_
  refine W_icmp_ge (tgt := 101) d_154_28 (by decide) (fun h28 => absurd h28 (by decide)) (fun _ => ?_)
  refine W_iload_n d_154_31 rfl ?_
  refine W_if_eq (tgt := 101) d_154_32 (by decide) (fun _ => ?_) (fun h32 => absurd h32 (by decide))
  refine W_iload_n d_154_101 rfl ?_
  refine W_if_eq (tgt := 122) d_154_102 (by decide) (fun _ => ?_) (fun h102 => absurd h102 (by decide))
  refine W_aload_n d_154_122 rfl (by decide) ?_
  refine W_getf d_154_123 o_154 k_7_38 rfl rfl ?_
  refine W_iconst d_154_126 (v := 4) (by decide) ?_
  refine W_aload_n d_154_127 rfl (by decide) ?_
  refine W_getf d_154_128 o_154 k_7_106 rfl rfl ?_
  rw [show T9 14 = nI tc from (g9.2.2.2 14 (by decide)).trans hB.2.2.2.1]
  refine W_imul d_154_131 ?_
  rw [show ((4 * nI tc : Int32)) = nI (4 * tc) from pk_mul 4 tc]
  refine W_iconst d_154_132 (v := 3) (by decide) ?_
  refine W_iadd d_154_133 ?_
  rw [show ((nI (4 * tc) + 3 : Int32)) = nI (4 * tc + 3) from nI_add (4 * tc) 3]
  refine W_aload_n d_154_134 rfl (by decide) ?_
  refine W_getf d_154_135 o_154 k_7_132 rfl rfl ?_
  refine W_mst (a := 8) d_154_138 rfl (by decide) (n := 24) rfl (vp_in_nI (by omega) (by decide)) (nI_clamp (by omega)) ?_
  refine W_aload_n d_154_139 rfl (by decide) ?_
  refine W_iconst d_154_140 (v := 0) (by decide) ?_
  refine W_putf d_154_141 o_154 k_7_86 rfl (Nat.le_of_ble_eq_true rfl) rfl mm_s11 ?_
  refine W_iload_n d_154_144 rfl ?_
  refine W_if_ne (tgt := 156) d_154_145 (by decide) (fun h145 => absurd h145 (by decide)) (fun _ => ?_)
  refine W_bipush d_154_148 (v := (-100)) (by decide) ?_
  refine W_aload_n d_154_150 rfl (by decide) ?_
  refine W_getf d_154_151 o_154 k_7_119 rfl rfl ?_
  rw [va_oth _ _ (by decide), e9]
  refine W_isub d_154_154 ?_
  refine W_iret d_154_155 rt_154 rfl ?_
  refine ⟨rfl, _, _, rfl, g9.wx.t (FX.y8.t (FX.s (Sw.u (by decide)))), va_same _ _ _, ?_⟩
  exact (va_oth _ _ (by decide)).trans ((g9.2.2.2 14 (by decide)).trans hB.2.2.2.1)
theorem x_154_2 (hB : BH f sz tc Y S) (hd : 5 ≤ d) {F : Nat} (hF : 1000 ≤ F) {s1 s2 s3 : Nat} {l0 l1 l2 : List Int32} (hr0 : pprt f sz F 0 (tst f sz 0) = (true, s1, l0)) (hr1 : pprt f sz F 1 s1 = (true, s2, l1)) (hr2 : pprt f sz F 2 s2 = (false, s3, l2)) : Wp d 154 0 (ment 154 [.ref 92]) [] (N, H3 g P (mm Y S)) (fun v M => v = some (.int (-100 - nI s3)) ∧ ∃ Y' S', M = (N, H3 g P (mm Y' S')) ∧ FX tc WX Y S Y' S' ∧ S' 11 = 0 ∧ S' 14 = nI tc) := by
  have hz := hB.2.2.2.2.2.1
  have ht := hB.2.2.2.2.1
  have fa : FX tc WE Y S Y (va_up (va_up S 23 0) 31 0) := FX.s ((Sw.u (by decide)).t (Sw.u (by decide)))
  have hBa := hB.x fa
  have hs0 : tst f sz 0 ≤ sz := (tst_b (Nat.zero_le _)).2
  have q0 := pprt_ok (p := 0) (by decide) hs0 hr0
  have q1 := pprt_ok (p := 1) (by decide) q0.2.1 hr1
  show Wp _ 154 0 [.ref 92, .null, .null] [] _ _
  refine W_aload_n d_154_0 rfl (by decide) ?_
  refine W_getf d_154_1 o_154 k_7_106 rfl rfl ?_
  rw [hB.2.2.2.1]
  refine W_bipush d_154_4 (v := 6) (by decide) ?_
  refine W_icmp_ne (tgt := 12) d_154_6 (by decide) (fun h6 => ?_) (fun h6 => absurd h6 (fun q => absurd ((nI_eq (a := tc) (b := 6) (by omega) (by omega)).mp q) (show ¬ tc = 6 by omega)))
  refine W_aload_n d_154_12 rfl (by decide) ?_
  refine W_iconst d_154_13 (v := 0) (by decide) ?_
  refine W_putf d_154_14 o_154 k_7_116 rfl (Nat.le_of_ble_eq_true rfl) rfl mm_s23 ?_
  refine W_aload_n d_154_17 rfl (by decide) ?_
  refine W_iconst d_154_18 (v := 0) (by decide) ?_
  refine W_putf d_154_19 o_154 k_7_132 rfl (Nat.le_of_ble_eq_true rfl) rfl mm_s31 ?_
  refine W_iconst d_154_22 (v := 1) (by decide) ?_
  refine W_istore_n d_154_23 rfl ?_
  refine W_iconst d_154_24 (v := 0) (by decide) ?_
  refine W_istore_n d_154_25 rfl ?_
  refine W_iload_n d_154_26 rfl ?_
  refine W_iconst d_154_27 (v := 3) (by decide) ?_
  refine W_icmp_ge (tgt := 101) d_154_28 (by decide) (fun h28 => absurd h28 (by decide)) (fun _ => ?_)
  refine W_iload_n d_154_31 rfl ?_
  refine W_if_eq (tgt := 101) d_154_32 (by decide) (fun h32 => absurd h32 (by decide)) (fun _ => ?_)
  refine mpart_t hBa (by omega) hF (p := 0) (i := 0) (s := tst f sz 0) (O := []) (by decide) (Nat.zero_le _) rfl ((va_oth _ _ (by decide)).trans (va_same _ _ _)) (va_same _ _ _) (fun k hk => absurd hk (Nat.not_lt_zero _)) (Nat.zero_le _) hr0 (fun Y0 T0 t0 f0 a0 c0 d0 o0 u0 z0 y0 => ?_)
  have g0 := fa.t f0
  have b0 := hB.x g0
  show Wp _ 154 95 [.ref 92, .int 1, .int 0] [] _ _
  refine W_iinc (v := 1) d_154_95 rfl (by decide) rfl ?_
  rw [show ((0 + 1 : Int32)) = 1 from by decide]
  refine W_goto (tgt := 26) d_154_98 (by decide) ?_
  refine W_iload_n d_154_26 rfl ?_
  refine W_iconst d_154_27 (v := 3) (by decide) ?_
  refine W_icmp_ge (tgt := 101) d_154_28 (by decide) (fun h28 => absurd h28 (by decide)) (fun _ => ?_)
  refine W_iload_n d_154_31 rfl ?_
  refine W_if_eq (tgt := 101) d_154_32 (by decide) (fun h32 => absurd h32 (by decide)) (fun _ => ?_)
  refine mpart_t b0 (by omega) hF (p := 1) (i := ten f sz t0) (O := ([] ++ l0.map cdm)) (by decide) (ten_c c0).2 d0 a0 o0 u0 (by rw [List.length_append, List.length_map, List.length_nil]; omega) hr1 (fun Y1 T1 t1 f1 a1 c1 d1 o1 u1 z1 y1 => ?_)
  have g1 := g0.t f1
  have b1 := hB.x g1
  show Wp _ 154 95 [.ref 92, .int 1, .int 1] [] _ _
  refine W_iinc (v := 1) d_154_95 rfl (by decide) rfl ?_
  rw [show ((1 + 1 : Int32)) = 2 from by decide]
  refine W_goto (tgt := 26) d_154_98 (by decide) ?_
  refine W_iload_n d_154_26 rfl ?_
  refine W_iconst d_154_27 (v := 3) (by decide) ?_
  refine W_icmp_ge (tgt := 101) d_154_28 (by decide) (fun h28 => absurd h28 (by decide)) (fun _ => ?_)
  refine W_iload_n d_154_31 rfl ?_
  refine W_if_eq (tgt := 101) d_154_32 (by decide) (fun h32 => absurd h32 (by decide)) (fun _ => ?_)
  refine mpart_f b1 (by omega) hF (p := 2) (i := ten f sz t1) (O := ([] ++ l0.map cdm ++ l1.map cdm)) (by decide) (ten_c c1).2 d1 a1 o1 u1 (by rw [List.length_append, List.length_map, List.length_append, List.length_map, List.length_nil]; omega) hr2 (fun Y9 T9 f9 e9 => ?_)
  have g9 := g1.t f9
  show Wp _ 154 95 [.ref 92, .int 0, .int 2] [] _ _
  refine W_iinc (v := 1) d_154_95 rfl (by decide) rfl ?_
  rw [show ((2 + 1 : Int32)) = 3 from by decide]
  refine W_goto (tgt := 26) d_154_98 (by decide) ?_
  refine W_iload_n d_154_26 rfl ?_
  refine W_iconst d_154_27 (v := 3) (by decide) ?_
  refine W_icmp_ge (tgt := 101) d_154_28 (by decide) (fun _ => ?_) (fun h28 => absurd h28 (by decide))
  refine W_iload_n d_154_101 rfl ?_
  refine W_if_eq (tgt := 122) d_154_102 (by decide) (fun _ => ?_) (fun h102 => absurd h102 (by decide))
  refine W_aload_n d_154_122 rfl (by decide) ?_
  refine W_getf d_154_123 o_154 k_7_38 rfl rfl ?_
  refine W_iconst d_154_126 (v := 4) (by decide) ?_
  refine W_aload_n d_154_127 rfl (by decide) ?_
  refine W_getf d_154_128 o_154 k_7_106 rfl rfl ?_
  rw [show T9 14 = nI tc from (g9.2.2.2 14 (by decide)).trans hB.2.2.2.1]
  refine W_imul d_154_131 ?_
  rw [show ((4 * nI tc : Int32)) = nI (4 * tc) from pk_mul 4 tc]
  refine W_iconst d_154_132 (v := 3) (by decide) ?_
  refine W_iadd d_154_133 ?_
  rw [show ((nI (4 * tc) + 3 : Int32)) = nI (4 * tc + 3) from nI_add (4 * tc) 3]
  refine W_aload_n d_154_134 rfl (by decide) ?_
  refine W_getf d_154_135 o_154 k_7_132 rfl rfl ?_
  refine W_mst (a := 8) d_154_138 rfl (by decide) (n := 24) rfl (vp_in_nI (by omega) (by decide)) (nI_clamp (by omega)) ?_
  refine W_aload_n d_154_139 rfl (by decide) ?_
  refine W_iconst d_154_140 (v := 0) (by decide) ?_
  refine W_putf d_154_141 o_154 k_7_86 rfl (Nat.le_of_ble_eq_true rfl) rfl mm_s11 ?_
  refine W_iload_n d_154_144 rfl ?_
  refine W_if_ne (tgt := 156) d_154_145 (by decide) (fun h145 => absurd h145 (by decide)) (fun _ => ?_)
  refine W_bipush d_154_148 (v := (-100)) (by decide) ?_
  refine W_aload_n d_154_150 rfl (by decide) ?_
  refine W_getf d_154_151 o_154 k_7_119 rfl rfl ?_
  rw [va_oth _ _ (by decide), e9]
  refine W_isub d_154_154 ?_
  refine W_iret d_154_155 rt_154 rfl ?_
  refine ⟨rfl, _, _, rfl, g9.wx.t (FX.y8.t (FX.s (Sw.u (by decide)))), va_same _ _ _, ?_⟩
  exact (va_oth _ _ (by decide)).trans ((g9.2.2.2 14 (by decide)).trans hB.2.2.2.1)
theorem x_154_3 (hB : BH f sz tc Y S) (hd : 5 ≤ d) {F : Nat} (hF : 1000 ≤ F) {s1 s2 s3 : Nat} {l0 l1 l2 : List Int32} (hr0 : pprt f sz F 0 (tst f sz 0) = (true, s1, l0)) (hr1 : pprt f sz F 1 s1 = (true, s2, l1)) (hr2 : pprt f sz F 2 s2 = (true, s3, l2)) (he : tok f sz s3 = -1) : Wp d 154 0 (ment 154 [.ref 92]) [] (N, H3 g P (mm Y S)) (fun v M => v = some (.int (nI tc)) ∧ ∃ Y' S', M = (N, H3 g P (mm Y' S')) ∧ FX tc WX Y S Y' S' ∧ S' 11 = 0 ∧ S' 14 = nI (tc + 1) ∧ Y' 8 (4 * tc) = 0 ∧ Y' 8 (4 * tc + 1) = nI l0.length ∧ Y' 8 (4 * tc + 2) = nI (l0.length + l1.length) ∧ Y' 8 (4 * tc + 3) = nI (l0.length + l1.length + l2.length) ∧ OC (Y' 7) (200 * tc) (l0.map cdm ++ l1.map cdm ++ l2.map cdm)) := by
  have hz := hB.2.2.2.2.2.1
  have ht := hB.2.2.2.2.1
  have fa : FX tc WE Y S Y (va_up (va_up S 23 0) 31 0) := FX.s ((Sw.u (by decide)).t (Sw.u (by decide)))
  have hBa := hB.x fa
  have hs0 : tst f sz 0 ≤ sz := (tst_b (Nat.zero_le _)).2
  have q0 := pprt_ok (p := 0) (by decide) hs0 hr0
  have q1 := pprt_ok (p := 1) (by decide) q0.2.1 hr1
  have q2 := pprt_ok (p := 2) (by decide) q1.2.1 hr2
  show Wp _ 154 0 [.ref 92, .null, .null] [] _ _
  refine W_aload_n d_154_0 rfl (by decide) ?_
  refine W_getf d_154_1 o_154 k_7_106 rfl rfl ?_
  rw [hB.2.2.2.1]
  refine W_bipush d_154_4 (v := 6) (by decide) ?_
  refine W_icmp_ne (tgt := 12) d_154_6 (by decide) (fun h6 => ?_) (fun h6 => absurd h6 (fun q => absurd ((nI_eq (a := tc) (b := 6) (by omega) (by omega)).mp q) (show ¬ tc = 6 by omega)))
  refine W_aload_n d_154_12 rfl (by decide) ?_
  refine W_iconst d_154_13 (v := 0) (by decide) ?_
  refine W_putf d_154_14 o_154 k_7_116 rfl (Nat.le_of_ble_eq_true rfl) rfl mm_s23 ?_
  refine W_aload_n d_154_17 rfl (by decide) ?_
  refine W_iconst d_154_18 (v := 0) (by decide) ?_
  refine W_putf d_154_19 o_154 k_7_132 rfl (Nat.le_of_ble_eq_true rfl) rfl mm_s31 ?_
  refine W_iconst d_154_22 (v := 1) (by decide) ?_
  refine W_istore_n d_154_23 rfl ?_
  refine W_iconst d_154_24 (v := 0) (by decide) ?_
  refine W_istore_n d_154_25 rfl ?_
  refine W_iload_n d_154_26 rfl ?_
  refine W_iconst d_154_27 (v := 3) (by decide) ?_
  refine W_icmp_ge (tgt := 101) d_154_28 (by decide) (fun h28 => absurd h28 (by decide)) (fun _ => ?_)
  refine W_iload_n d_154_31 rfl ?_
  refine W_if_eq (tgt := 101) d_154_32 (by decide) (fun h32 => absurd h32 (by decide)) (fun _ => ?_)
  refine mpart_t hBa (by omega) hF (p := 0) (i := 0) (s := tst f sz 0) (O := []) (by decide) (Nat.zero_le _) rfl ((va_oth _ _ (by decide)).trans (va_same _ _ _)) (va_same _ _ _) (fun k hk => absurd hk (Nat.not_lt_zero _)) (Nat.zero_le _) hr0 (fun Y0 T0 t0 f0 a0 c0 d0 o0 u0 z0 y0 => ?_)
  have g0 := fa.t f0
  have b0 := hB.x g0
  show Wp _ 154 95 [.ref 92, .int 1, .int 0] [] _ _
  refine W_iinc (v := 1) d_154_95 rfl (by decide) rfl ?_
  rw [show ((0 + 1 : Int32)) = 1 from by decide]
  refine W_goto (tgt := 26) d_154_98 (by decide) ?_
  refine W_iload_n d_154_26 rfl ?_
  refine W_iconst d_154_27 (v := 3) (by decide) ?_
  refine W_icmp_ge (tgt := 101) d_154_28 (by decide) (fun h28 => absurd h28 (by decide)) (fun _ => ?_)
  refine W_iload_n d_154_31 rfl ?_
  refine W_if_eq (tgt := 101) d_154_32 (by decide) (fun h32 => absurd h32 (by decide)) (fun _ => ?_)
  refine mpart_t b0 (by omega) hF (p := 1) (i := ten f sz t0) (O := ([] ++ l0.map cdm)) (by decide) (ten_c c0).2 d0 a0 o0 u0 (by rw [List.length_append, List.length_map, List.length_nil]; omega) hr1 (fun Y1 T1 t1 f1 a1 c1 d1 o1 u1 z1 y1 => ?_)
  have g1 := g0.t f1
  have b1 := hB.x g1
  show Wp _ 154 95 [.ref 92, .int 1, .int 1] [] _ _
  refine W_iinc (v := 1) d_154_95 rfl (by decide) rfl ?_
  rw [show ((1 + 1 : Int32)) = 2 from by decide]
  refine W_goto (tgt := 26) d_154_98 (by decide) ?_
  refine W_iload_n d_154_26 rfl ?_
  refine W_iconst d_154_27 (v := 3) (by decide) ?_
  refine W_icmp_ge (tgt := 101) d_154_28 (by decide) (fun h28 => absurd h28 (by decide)) (fun _ => ?_)
  refine W_iload_n d_154_31 rfl ?_
  refine W_if_eq (tgt := 101) d_154_32 (by decide) (fun h32 => absurd h32 (by decide)) (fun _ => ?_)
  refine mpart_t b1 (by omega) hF (p := 2) (i := ten f sz t1) (O := ([] ++ l0.map cdm ++ l1.map cdm)) (by decide) (ten_c c1).2 d1 a1 o1 u1 (by rw [List.length_append, List.length_map, List.length_append, List.length_map, List.length_nil]; omega) hr2 (fun Y2 T2 t2 f2 a2 c2 d2 o2 u2 z2 y2 => ?_)
  have g2 := g1.t f2
  have b2 := hB.x g2
  show Wp _ 154 95 [.ref 92, .int 1, .int 2] [] _ _
  refine W_iinc (v := 1) d_154_95 rfl (by decide) rfl ?_
  rw [show ((2 + 1 : Int32)) = 3 from by decide]
  refine W_goto (tgt := 26) d_154_98 (by decide) ?_
  refine W_iload_n d_154_26 rfl ?_
  refine W_iconst d_154_27 (v := 3) (by decide) ?_
  refine W_icmp_ge (tgt := 101) d_154_28 (by decide) (fun _ => ?_) (fun h28 => absurd h28 (by decide))
  have hby2 : ∀ k, k < sz → 0 ≤ Y2 6 k ∧ Y2 6 k ≤ 255 := by
    rw [b2.1]
    exact hB.2.2.2.2.2.2
  refine W_iload_n d_154_101 rfl ?_
  refine W_if_eq (tgt := 122) d_154_102 (by decide) (fun h102 => absurd h102 (by decide)) (fun _ => ?_)
  refine W_aload_n d_154_105 rfl (by decide) ?_
  refine W_callVQ d_154_106 o_154 (Or.inl k_7_155) (by omega) (x_145 (by omega) b2.2.1 hz hby2 (ten_c c2).2 a2 b2.2.2.1) rfl (mrecv_of rfl o_145.symm) rfl (Nat.le_of_ble_eq_true rfl) ?_
  rintro _ _ ⟨rfl, S9, rfl, r, e1, e2, e3, e4⟩
  rw [(b2).1] at e1 e2 e3
  have e1' : S9 24 = nI s3 := e1.trans (congrArg nI d2.symm)
  have e3' : S9 25 = mtk (tok f sz s3) := e3.trans (congrArg (fun s => mtk (tok f sz s)) d2.symm)
  have hmi := mtk_i _ (tok_r (f := f) q2.2.1 hB.2.2.2.2.2.2)
  have g9 := g2.t (FX.s r.we)
  have h0 : S9 25 = 0 := by rw [e3', he]; decide
  refine W_aload_n d_154_109 rfl (by decide) ?_
  refine W_getf d_154_110 o_154 k_7_122 rfl rfl ?_
  refine W_if_ne (tgt := 120) d_154_113 (by decide) (fun h113 => absurd h0 h113) (fun h113 => ?_)
  refine W_iconst d_154_116 (v := 1) (by decide) ?_
  refine W_goto (tgt := 121) d_154_117 (by decide) ?_
  refine W_istore_n d_154_121 rfl ?_
  refine W_aload_n d_154_122 rfl (by decide) ?_
  refine W_getf d_154_123 o_154 k_7_38 rfl rfl ?_
  refine W_iconst d_154_126 (v := 4) (by decide) ?_
  refine W_aload_n d_154_127 rfl (by decide) ?_
  refine W_getf d_154_128 o_154 k_7_106 rfl rfl ?_
  rw [show S9 14 = nI tc from (g9.2.2.2 14 (by decide)).trans hB.2.2.2.1]
  refine W_imul d_154_131 ?_
  rw [show ((4 * nI tc : Int32)) = nI (4 * tc) from pk_mul 4 tc]
  refine W_iconst d_154_132 (v := 3) (by decide) ?_
  refine W_iadd d_154_133 ?_
  rw [show ((nI (4 * tc) + 3 : Int32)) = nI (4 * tc + 3) from nI_add (4 * tc) 3]
  refine W_aload_n d_154_134 rfl (by decide) ?_
  refine W_getf d_154_135 o_154 k_7_132 rfl rfl ?_
  rw [show S9 31 = nI (([] ++ l0.map cdm ++ l1.map cdm ++ l2.map cdm)).length from (r 31 (by decide)).trans o2]
  refine W_mst (a := 8) d_154_138 rfl (by decide) (n := 24) rfl (vp_in_nI (by omega) (by decide)) (nI_clamp (by omega)) ?_
  refine W_aload_n d_154_139 rfl (by decide) ?_
  refine W_iconst d_154_140 (v := 0) (by decide) ?_
  refine W_putf d_154_141 o_154 k_7_86 rfl (Nat.le_of_ble_eq_true rfl) rfl mm_s11 ?_
  refine W_iload_n d_154_144 rfl ?_
  refine W_if_ne (tgt := 156) d_154_145 (by decide) (fun _ => ?_) (fun h145 => absurd h145 (by decide))
  refine W_aload_n d_154_156 rfl (by decide) ?_
  refine W_dup d_154_157 rfl ?_
  refine W_getf d_154_158 o_154 k_7_106 rfl rfl ?_
  rw [va_oth _ _ (by decide), show S9 14 = nI tc from (g9.2.2.2 14 (by decide)).trans hB.2.2.2.1]
  refine W_iconst d_154_161 (v := 1) (by decide) ?_
  refine W_iadd d_154_162 ?_
  rw [show ((nI tc + 1 : Int32)) = nI (tc + 1) from nI_add tc 1]
  refine W_putf d_154_163 o_154 k_7_106 rfl (Nat.le_of_ble_eq_true rfl) rfl mm_s14 ?_
  refine W_aload_n d_154_166 rfl (by decide) ?_
  refine W_getf d_154_167 o_154 k_7_106 rfl rfl ?_
  rw [va_same]
  refine W_iconst d_154_170 (v := 1) (by decide) ?_
  refine W_isub d_154_171 ?_
  rw [show (nI (tc + 1) - 1 : Int32) = nI tc from nI_pred tc]
  refine W_iret d_154_172 rt_154 rfl ?_
  have L1 : ([] ++ l0.map cdm).length = l0.length := by rw [List.length_append, List.length_map, List.length_nil, Nat.zero_add]
  have L2 : ([] ++ l0.map cdm ++ l1.map cdm).length = l0.length + l1.length := by rw [List.length_append, L1, List.length_map]
  have L3 : ([] ++ l0.map cdm ++ l1.map cdm ++ l2.map cdm).length = l0.length + l1.length + l2.length := by rw [List.length_append, L2, List.length_map]
  refine ⟨rfl, _, _, rfl, g9.wx.t (FX.y8.t (FX.s ((Sw.u (by decide)).t (Sw.u (by decide))))), (va_oth _ _ (by decide)).trans (va_same _ _ _), va_same _ _ _, ?_, ?_, ?_, ?_, ?_⟩
  · rw [u2_rw, va_oth _ _ (by omega), y2 _ (by omega), y1 _ (by omega)]
    exact z0
  · rw [u2_rw, va_oth _ _ (by omega), y2 _ (by omega), z1, L1]
  · rw [u2_rw, va_oth _ _ (by omega), z2, L2]
  · rw [u2_rw, va_same, L3]
  · rw [u2_row (by decide)]
    have h := u2
    rw [List.nil_append] at h
    exact h
theorem x_154_4 (hB : BH f sz tc Y S) (hd : 5 ≤ d) {F : Nat} (hF : 1000 ≤ F) {s1 s2 s3 : Nat} {l0 l1 l2 : List Int32} (hr0 : pprt f sz F 0 (tst f sz 0) = (true, s1, l0)) (hr1 : pprt f sz F 1 s1 = (true, s2, l1)) (hr2 : pprt f sz F 2 s2 = (true, s3, l2)) (he : ¬ tok f sz s3 = -1) : Wp d 154 0 (ment 154 [.ref 92]) [] (N, H3 g P (mm Y S)) (fun v M => v = some (.int (-100 - nI s3)) ∧ ∃ Y' S', M = (N, H3 g P (mm Y' S')) ∧ FX tc WX Y S Y' S' ∧ S' 11 = 0 ∧ S' 14 = nI tc) := by
  have hz := hB.2.2.2.2.2.1
  have ht := hB.2.2.2.2.1
  have fa : FX tc WE Y S Y (va_up (va_up S 23 0) 31 0) := FX.s ((Sw.u (by decide)).t (Sw.u (by decide)))
  have hBa := hB.x fa
  have hs0 : tst f sz 0 ≤ sz := (tst_b (Nat.zero_le _)).2
  have q0 := pprt_ok (p := 0) (by decide) hs0 hr0
  have q1 := pprt_ok (p := 1) (by decide) q0.2.1 hr1
  have q2 := pprt_ok (p := 2) (by decide) q1.2.1 hr2
  show Wp _ 154 0 [.ref 92, .null, .null] [] _ _
  refine W_aload_n d_154_0 rfl (by decide) ?_
  refine W_getf d_154_1 o_154 k_7_106 rfl rfl ?_
  rw [hB.2.2.2.1]
  refine W_bipush d_154_4 (v := 6) (by decide) ?_
  refine W_icmp_ne (tgt := 12) d_154_6 (by decide) (fun h6 => ?_) (fun h6 => absurd h6 (fun q => absurd ((nI_eq (a := tc) (b := 6) (by omega) (by omega)).mp q) (show ¬ tc = 6 by omega)))
  refine W_aload_n d_154_12 rfl (by decide) ?_
  refine W_iconst d_154_13 (v := 0) (by decide) ?_
  refine W_putf d_154_14 o_154 k_7_116 rfl (Nat.le_of_ble_eq_true rfl) rfl mm_s23 ?_
  refine W_aload_n d_154_17 rfl (by decide) ?_
  refine W_iconst d_154_18 (v := 0) (by decide) ?_
  refine W_putf d_154_19 o_154 k_7_132 rfl (Nat.le_of_ble_eq_true rfl) rfl mm_s31 ?_
  refine W_iconst d_154_22 (v := 1) (by decide) ?_
  refine W_istore_n d_154_23 rfl ?_
  refine W_iconst d_154_24 (v := 0) (by decide) ?_
  refine W_istore_n d_154_25 rfl ?_
  refine W_iload_n d_154_26 rfl ?_
  refine W_iconst d_154_27 (v := 3) (by decide) ?_
  refine W_icmp_ge (tgt := 101) d_154_28 (by decide) (fun h28 => absurd h28 (by decide)) (fun _ => ?_)
  refine W_iload_n d_154_31 rfl ?_
  refine W_if_eq (tgt := 101) d_154_32 (by decide) (fun h32 => absurd h32 (by decide)) (fun _ => ?_)
  refine mpart_t hBa (by omega) hF (p := 0) (i := 0) (s := tst f sz 0) (O := []) (by decide) (Nat.zero_le _) rfl ((va_oth _ _ (by decide)).trans (va_same _ _ _)) (va_same _ _ _) (fun k hk => absurd hk (Nat.not_lt_zero _)) (Nat.zero_le _) hr0 (fun Y0 T0 t0 f0 a0 c0 d0 o0 u0 z0 y0 => ?_)
  have g0 := fa.t f0
  have b0 := hB.x g0
  show Wp _ 154 95 [.ref 92, .int 1, .int 0] [] _ _
  refine W_iinc (v := 1) d_154_95 rfl (by decide) rfl ?_
  rw [show ((0 + 1 : Int32)) = 1 from by decide]
  refine W_goto (tgt := 26) d_154_98 (by decide) ?_
  refine W_iload_n d_154_26 rfl ?_
  refine W_iconst d_154_27 (v := 3) (by decide) ?_
  refine W_icmp_ge (tgt := 101) d_154_28 (by decide) (fun h28 => absurd h28 (by decide)) (fun _ => ?_)
  refine W_iload_n d_154_31 rfl ?_
  refine W_if_eq (tgt := 101) d_154_32 (by decide) (fun h32 => absurd h32 (by decide)) (fun _ => ?_)
  refine mpart_t b0 (by omega) hF (p := 1) (i := ten f sz t0) (O := ([] ++ l0.map cdm)) (by decide) (ten_c c0).2 d0 a0 o0 u0 (by rw [List.length_append, List.length_map, List.length_nil]; omega) hr1 (fun Y1 T1 t1 f1 a1 c1 d1 o1 u1 z1 y1 => ?_)
  have g1 := g0.t f1
  have b1 := hB.x g1
  show Wp _ 154 95 [.ref 92, .int 1, .int 1] [] _ _
  refine W_iinc (v := 1) d_154_95 rfl (by decide) rfl ?_
  rw [show ((1 + 1 : Int32)) = 2 from by decide]
  refine W_goto (tgt := 26) d_154_98 (by decide) ?_
  refine W_iload_n d_154_26 rfl ?_
  refine W_iconst d_154_27 (v := 3) (by decide) ?_
  refine W_icmp_ge (tgt := 101) d_154_28 (by decide) (fun h28 => absurd h28 (by decide)) (fun _ => ?_)
  refine W_iload_n d_154_31 rfl ?_
  refine W_if_eq (tgt := 101) d_154_32 (by decide) (fun h32 => absurd h32 (by decide)) (fun _ => ?_)
  refine mpart_t b1 (by omega) hF (p := 2) (i := ten f sz t1) (O := ([] ++ l0.map cdm ++ l1.map cdm)) (by decide) (ten_c c1).2 d1 a1 o1 u1 (by rw [List.length_append, List.length_map, List.length_append, List.length_map, List.length_nil]; omega) hr2 (fun Y2 T2 t2 f2 a2 c2 d2 o2 u2 z2 y2 => ?_)
  have g2 := g1.t f2
  have b2 := hB.x g2
  show Wp _ 154 95 [.ref 92, .int 1, .int 2] [] _ _
  refine W_iinc (v := 1) d_154_95 rfl (by decide) rfl ?_
  rw [show ((2 + 1 : Int32)) = 3 from by decide]
  refine W_goto (tgt := 26) d_154_98 (by decide) ?_
  refine W_iload_n d_154_26 rfl ?_
  refine W_iconst d_154_27 (v := 3) (by decide) ?_
  refine W_icmp_ge (tgt := 101) d_154_28 (by decide) (fun _ => ?_) (fun h28 => absurd h28 (by decide))
  have hby2 : ∀ k, k < sz → 0 ≤ Y2 6 k ∧ Y2 6 k ≤ 255 := by
    rw [b2.1]
    exact hB.2.2.2.2.2.2
  refine W_iload_n d_154_101 rfl ?_
  refine W_if_eq (tgt := 122) d_154_102 (by decide) (fun h102 => absurd h102 (by decide)) (fun _ => ?_)
  refine W_aload_n d_154_105 rfl (by decide) ?_
  refine W_callVQ d_154_106 o_154 (Or.inl k_7_155) (by omega) (x_145 (by omega) b2.2.1 hz hby2 (ten_c c2).2 a2 b2.2.2.1) rfl (mrecv_of rfl o_145.symm) rfl (Nat.le_of_ble_eq_true rfl) ?_
  rintro _ _ ⟨rfl, S9, rfl, r, e1, e2, e3, e4⟩
  rw [(b2).1] at e1 e2 e3
  have e1' : S9 24 = nI s3 := e1.trans (congrArg nI d2.symm)
  have e3' : S9 25 = mtk (tok f sz s3) := e3.trans (congrArg (fun s => mtk (tok f sz s)) d2.symm)
  have hmi := mtk_i _ (tok_r (f := f) q2.2.1 hB.2.2.2.2.2.2)
  have g9 := g2.t (FX.s r.we)
  have h0 : ¬ S9 25 = 0 := fun q => he (hmi.2.2.2.2.2.2.2.2.1.mp (e3'.symm.trans q))
  refine W_aload_n d_154_109 rfl (by decide) ?_
  refine W_getf d_154_110 o_154 k_7_122 rfl rfl ?_
  refine W_if_ne (tgt := 120) d_154_113 (by decide) (fun h113 => ?_) (fun h113 => absurd h113 h0)
  refine W_iconst d_154_120 (v := 0) (by decide) ?_
  refine W_istore_n d_154_121 rfl ?_
  refine W_aload_n d_154_122 rfl (by decide) ?_
  refine W_getf d_154_123 o_154 k_7_38 rfl rfl ?_
  refine W_iconst d_154_126 (v := 4) (by decide) ?_
  refine W_aload_n d_154_127 rfl (by decide) ?_
  refine W_getf d_154_128 o_154 k_7_106 rfl rfl ?_
  rw [show S9 14 = nI tc from (g9.2.2.2 14 (by decide)).trans hB.2.2.2.1]
  refine W_imul d_154_131 ?_
  rw [show ((4 * nI tc : Int32)) = nI (4 * tc) from pk_mul 4 tc]
  refine W_iconst d_154_132 (v := 3) (by decide) ?_
  refine W_iadd d_154_133 ?_
  rw [show ((nI (4 * tc) + 3 : Int32)) = nI (4 * tc + 3) from nI_add (4 * tc) 3]
  refine W_aload_n d_154_134 rfl (by decide) ?_
  refine W_getf d_154_135 o_154 k_7_132 rfl rfl ?_
  refine W_mst (a := 8) d_154_138 rfl (by decide) (n := 24) rfl (vp_in_nI (by omega) (by decide)) (nI_clamp (by omega)) ?_
  refine W_aload_n d_154_139 rfl (by decide) ?_
  refine W_iconst d_154_140 (v := 0) (by decide) ?_
  refine W_putf d_154_141 o_154 k_7_86 rfl (Nat.le_of_ble_eq_true rfl) rfl mm_s11 ?_
  refine W_iload_n d_154_144 rfl ?_
  refine W_if_ne (tgt := 156) d_154_145 (by decide) (fun h145 => absurd h145 (by decide)) (fun _ => ?_)
  refine W_bipush d_154_148 (v := (-100)) (by decide) ?_
  refine W_aload_n d_154_150 rfl (by decide) ?_
  refine W_getf d_154_151 o_154 k_7_119 rfl rfl ?_
  rw [va_oth _ _ (by decide), e1']
  refine W_isub d_154_154 ?_
  refine W_iret d_154_155 rt_154 rfl ?_
  refine ⟨rfl, _, _, rfl, g9.wx.t (FX.y8.t (FX.s (Sw.u (by decide)))), va_same _ _ _, ?_⟩
  exact (va_oth _ _ (by decide)).trans ((g9.2.2.2 14 (by decide)).trans hB.2.2.2.1)
end
