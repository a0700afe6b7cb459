/-! TEXTS: what the model's turns make of a chain, a link, a one (wip/whole/gen80.py) -/
def lo (c : Nat) : Int32 := if c = 0 then 1 else if c = 1 then 2 else if c = 2 then 5 else if c = 3 then 6 else if c = 4 then 3 else 7
def pr (c : Nat) : Int32 := if c = 0 then 1 else if c = 1 then 2 else if c = 2 then 5 else if c = 3 then 6 else if c = 4 then 4 else 7
def CF (X : List Int32) : Prop := ∃ h5 r h6, X = h5 ++ r :: h6 ∧ (∀ a, a ∈ h5 → 5 ≤ rnk a) ∧ rnk r = 4
def SP (c : Nat) (t : Int32) (X : List Int32) : Prop := (¬ c = 5 → ¬ t = 42) ∧ (¬ c = 5 → ¬ c = 3 → ¬ t = 43 ∧ ¬ t = 45) ∧ (c = 4 ∨ c = 1 ∨ c = 0 → (t = 60 ∨ t = 61 → CF X)) ∧ (c = 1 ∨ c = 0 → ¬ t = 4) ∧ (c = 0 → ¬ t = 3)
def pm (c : Nat) (m t : Int32) : Prop := (c = 0 ∨ c = 1 ∨ c = 4 → m = 1) ∧ (c = 2 ∨ c = 3 ∨ c = 5 → m = 0 ∨ ¬ t = 5)
theorem jfa : ∀ c, c < 4 → ∀ t, t ∈ TL → jnt c t = true → isg t = true ∧ ¬ t = 59 ∧ ¬ t = 41 ∧ ¬ 10 - cst t = -1 := by decide +kernel
theorem jfb : ∀ c, c < 4 → ∀ t, t ∈ TL → jnt c t = true → ¬ (10 - cst t = 0 ∨ 10 - cst t = 13 ∨ 10 - cst t = 19) ∧ ¬ rnk (10 - cst t) = 4 := by decide +kernel
theorem jfc : ∀ c, c < 4 → ∀ t, t ∈ TL → jnt c t = true → lo c = rnk (10 - cst t) ∧ rnk (10 - cst t) < pr (lnk c) := by decide +kernel
theorem jfd : ∀ c, c < 4 → ∀ t, t ∈ TL → jnt c t = true → (c < 2 → ¬ 12 < 10 - cst t) ∧ (2 ≤ c → 12 < 10 - cst t) := by decide +kernel
theorem lf4 : ∀ c, c < 4 → 1 ≤ lo c ∧ pr c = lo c ∧ lo c ≤ lo (lnk c) ∧ pr c ≤ pr (lnk c) := by decide +kernel
theorem lf60 : ∀ t, t ∈ TL → (t = 60 ∨ t = 61) → isg t = true ∧ ¬ t = 59 ∧ ¬ t = 41 ∧ ¬ 10 - cst t = -1 ∧ ¬ (10 - cst t = 0 ∨ 10 - cst t = 13 ∨ 10 - cst t = 19) ∧ rnk (10 - cst t) = 4 ∧ 12 < 10 - cst t := by decide +kernel
theorem isg_i : ∀ t, t ∈ TL → isg t = true → t = 3 ∨ t = 4 ∨ t = 43 ∨ t = 45 ∨ t = 42 ∨ t = 60 ∨ t = 61 := by decide +kernel
theorem cdm_cst (t : Int32) : cdm (cst t) = 10 - cst t := if_pos (cst_b t).1
theorem SP_j {c : Nat} {t : Int32} {X : List Int32} (hc : c < 4) (h : SP (lnk c) t X) (hj : ¬ jnt c t = true) : SP c t X := by
  have : c = 0 ∨ c = 1 ∨ c = 2 ∨ c = 3 := by omega
  rcases this with rfl | rfl | rfl | rfl
  · exact ⟨fun _ => h.1 (by decide), fun _ _ => h.2.1 (by decide) (by decide), fun _ => h.2.2.1 (Or.inr (Or.inl rfl)), fun _ => h.2.2.2.1 (Or.inl rfl), fun _ q => hj (by rw [q]; decide)⟩
  · exact ⟨fun _ => h.1 (by decide), fun _ _ => h.2.1 (by decide) (by decide), fun _ => h.2.2.1 (Or.inl rfl), fun _ q => hj (by rw [q]; decide), fun q => absurd q (by decide)⟩
  · exact ⟨fun _ => h.1 (by decide), fun _ _ => ⟨fun q => hj (by rw [q]; decide), fun q => hj (by rw [q]; decide)⟩, fun q => absurd q (by decide), fun q => absurd q (by decide), fun q => absurd q (by decide)⟩
  · exact ⟨fun _ q => hj (by rw [q]; decide), fun _ q => absurd rfl q, fun q => absurd q (by decide), fun q => absurd q (by decide), fun q => absurd q (by decide)⟩
theorem pm_l {c : Nat} {m t : Int32} (hc : c < 4) (h : pm c m t) : pm (lnk c) m t := by
  have : c = 0 ∨ c = 1 ∨ c = 2 ∨ c = 3 := by omega
  rcases this with rfl | rfl | rfl | rfl
  · exact ⟨fun _ => h.1 (Or.inl rfl), fun q => absurd q (by decide)⟩
  · exact ⟨fun _ => h.1 (Or.inr (Or.inl rfl)), fun q => absurd q (by decide)⟩
  · exact ⟨fun q => absurd q (by decide), fun _ => h.2 (Or.inl rfl)⟩
  · exact ⟨fun q => absurd q (by decide), fun _ => h.2 (Or.inr (Or.inl rfl))⟩
theorem pm_j {c : Nat} {t : Int32} (hc : c < 4) : pm (lnk c) (if c < 2 then 1 else 0) t := by
  have : c = 0 ∨ c = 1 ∨ c = 2 ∨ c = 3 := by omega
  rcases this with rfl | rfl | rfl | rfl
  · exact ⟨fun _ => rfl, fun q => absurd q (by decide)⟩
  · exact ⟨fun _ => rfl, fun q => absurd q (by decide)⟩
  · exact ⟨fun q => absurd q (by decide), fun _ => Or.inl rfl⟩
  · exact ⟨fun q => absurd q (by decide), fun _ => Or.inl rfl⟩
theorem cnt_no {v : Int32} {H : List Int32} (h : ¬ (v = 0 ∨ v = 13 ∨ v = 19)) : cnt (v :: H) = cnt H := by rw [cnt, if_neg h, Nat.add_zero]
theorem cnt_yes {v : Int32} {H : List Int32} (h : v = 0 ∨ v = 13 ∨ v = 19) : cnt (v :: H) = cnt H + 1 := by rw [cnt, if_pos h]
section
variable {d : Nat} {g : mG} {N : Nat} {P : Nat → mC} {f : Nat → Int32} {sz tc : Nat} {Y0 : tR} {S0 : Nat → Int32} {Q : Option Value → mM → Prop}
theorem e_flt (hB : BH f sz tc Y0 S0) (hd : 4 ≤ d) {m : Int32} {H O : List Int32} {s : Nat} (hs : s ≤ sz) (hS : SP 0 (tok f sz s) H) (h59 : tok f sz s = 59 → ∃ a r, (unw 1 H).2 = a :: r) (h41 : tok f sz s = 41 → (unw 1 H).2 = []) (hq : QF g N P tc Y0 S0 Q s) : EW d g N P f sz tc Y0 S0 Q 0 m H O s := by
  by_cases q59 : tok f sz s = 59
  · obtain ⟨a, r, he⟩ := h59 q59
    exact t6f hB hd q59 he hq
  · by_cases q41 : tok f sz s = 41
    · exact t7f hB hd q41 (h41 q41) hq
    · cases hg : isg (tok f sz s) with
      | false => exact t9 hB hd q59 q41 hg hq
      | true =>
        have ht := tok_r hs hB.2.2.2.2.2.2
        have hu : tok f sz s = 60 ∨ tok f sz s = 61 := by
          rcases isg_i _ ht hg with q | q | q | q | q | q
          · exact absurd q (hS.2.2.2.2 rfl)
          · exact absurd q (hS.2.2.2.1 (Or.inr rfl))
          · exact absurd q (hS.2.1 (by decide) (by decide)).1
          · exact absurd q (hS.2.1 (by decide) (by decide)).2
          · exact absurd q (hS.1 (by decide))
          · exact q
        obtain ⟨h5, r, h6, rfl, h7, h8⟩ := hS.2.2.1 (Or.inr (Or.inr rfl)) hu
        have hk := lf60 _ ht hu
        have he : unw 5 (h5 ++ r :: h6) = (h5, r :: h6) := unw_app h7 (show rnk r < 5 by rw [h8]; decide)
        exact t8f hB hd q59 q41 hg rfl hk.2.2.2.1 hk.2.2.2.2.1 hk.2.2.2.2.2.1 (a := r) (r := h6) (by rw [he]) h8 hq
def CG (d : Nat) (g : mG) (N : Nat) (P : Nat → mC) (f : Nat → Int32) (sz tc : Nat) (Y0 : tR) (S0 : Nat → Int32) (Q : Option Value → mM → Prop) (F : Nat) : Prop :=
  (∀ (c s o : Nat) (m : Int32) (H O : List Int32), c ≤ 5 → s ≤ sz → cnt H = o → o ≤ 5 → (sz - s) * 6 + hgt c < F → RT (pr c) H → pm c m (tok f sz s) → (∀ s1 l, pgo f sz F c s o = (false, s1, l) → QF g N P tc Y0 S0 Q s1) → (∀ s1 l, pgo f sz F c s o = (true, s1, l) → ∀ h O1 : List Int32, O1 ++ h = O ++ l.map cdm → (∀ a, a ∈ h → lo c ≤ rnk a) → SP c (tok f sz s1) (h ++ H) → ∀ m1 : Int32, EW d g N P f sz tc Y0 S0 Q 0 m1 (h ++ H) O1 s1) → EW d g N P f sz tc Y0 S0 Q 1 m H O s) ∧
  (∀ (s o : Nat) (m : Int32) (H O : List Int32), s ≤ sz → cnt H = o → o ≤ 5 → (sz - s) * 6 < F → (m = 0 ∨ ¬ tok f sz s = 5) → (∀ s1 l, pgo f sz F 5 s o = (false, s1, l) → QF g N P tc Y0 S0 Q s1) → (∀ s1 l, pgo f sz F 5 s o = (true, s1, l) → ∀ m1 : Int32, EW d g N P f sz tc Y0 S0 Q 0 m1 (unw 7 H).2 (O ++ l.map cdm ++ (unw 7 H).1) s1) → EW d g N P f sz tc Y0 S0 Q 1 m H O s) ∧
  (∀ (c s o : Nat) (H hh O : List Int32), c < 4 → s ≤ sz → cnt H = o → o ≤ 5 → (sz - s) * 6 < F → RT (pr c) H → (∀ a, a ∈ hh → lo c ≤ rnk a) → SP (lnk c) (tok f sz s) (hh ++ H) → (∀ s1 l, pgo f sz F (6 + c) s o = (false, s1, l) → QF g N P tc Y0 S0 Q s1) → (∀ s1 l, pgo f sz F (6 + c) s o = (true, s1, l) → ∀ h O1 : List Int32, O1 ++ h = (O ++ hh) ++ l.map cdm → (∀ a, a ∈ h → lo c ≤ rnk a) → SP c (tok f sz s1) (h ++ H) → ∀ m1 : Int32, EW d g N P f sz tc Y0 S0 Q 0 m1 (h ++ H) O1 s1) → ∀ m : Int32, EW d g N P f sz tc Y0 S0 Q 0 m (hh ++ H) O s)
theorem ce_6 {F : Nat} (IH : CG d g N P f sz tc Y0 S0 Q F) (hB : BH f sz tc Y0 S0) (hd : 4 ≤ d) {c s o : Nat} {H hh O : List Int32} (hc : c < 4) (hs : s ≤ sz) (hcn : cnt H = o) (ho : o ≤ 5) (hF : (sz - s) * 6 < F + 1) (hR : RT (pr c) H) (hh2 : ∀ a, a ∈ hh → lo c ≤ rnk a) (hS : SP (lnk c) (tok f sz s) (hh ++ H)) (kf : (∀ s1 l, pgo f sz (F + 1) (6 + c) s o = (false, s1, l) → QF g N P tc Y0 S0 Q s1)) (kg : (∀ s1 l, pgo f sz (F + 1) (6 + c) s o = (true, s1, l) → ∀ h O1 : List Int32, O1 ++ h = (O ++ hh) ++ l.map cdm → (∀ a, a ∈ h → lo c ≤ rnk a) → SP c (tok f sz s1) (h ++ H) → ∀ m1 : Int32, EW d g N P f sz tc Y0 S0 Q 0 m1 (h ++ H) O1 s1)) (m : Int32) : EW d g N P f sz tc Y0 S0 Q 0 m (hh ++ H) O s := by
  have hl := lf4 c hc
  have hg5 := hgt_b c
  have hl5 := lnk_b c
  have hg := hl5.2 hc
  rw [pgo_6] at kf kg
  have hun : unw (lo c) (hh ++ H) = (hh, H) := unw_app hh2 (by rw [← hl.2.1]; exact hR)
  by_cases hj : jnt c (tok f sz s) = true
  · rw [if_pos hj] at kf kg
    have ht := tok_r hs hB.2.2.2.2.2.2
    obtain ⟨j1, j2, j3, j4⟩ := jfa c hc _ ht hj
    obtain ⟨j5, j6⟩ := jfb c hc _ ht hj
    obtain ⟨j7, j8⟩ := jfc c hc _ ht hj
    obtain ⟨j9, j10⟩ := jfd c hc _ ht hj
    have hlt := jnt_lt hs hj
    have hn := nxt_b (f := f) hlt
    obtain ⟨sg, hsg⟩ : ∃ sg, 10 - cst (tok f sz s) = sg := ⟨_, rfl⟩
    rw [hsg] at j4 j5 j6 j7 j8 j9 j10
    have key : EW d g N P f sz tc Y0 S0 Q 1 (if c < 2 then 1 else 0) (sg :: H) (O ++ hh) (nxt f sz s) := by
      refine IH.1 (lnk c) (nxt f sz s) o _ (sg :: H) (O ++ hh) hl5.1 hn.2 ((cnt_no j5).trans hcn) ho (by omega) j8 (pm_j hc) (fun s1 l e => kf s1 [] (by rw [e, pbd_f])) (fun s1 l1 e h2 O2 hO hr hS2 m1 => ?_)
      have hq := pgo_ok F _ _ _ _ _ hn.2 e
      rw [e, pbd_t] at kf kg
      rw [← app_cons] at hS2 ⊢
      refine IH.2.2 c s1 o H (h2 ++ [sg]) O2 hc hq.2.1 hcn ho (by omega) hR (fun a ha => ?_) hS2 (fun s2 l e2 => kf s2 [] (by rw [e2, pbd_f])) (fun s2 l2 e2 h O3 hO3 hr3 hS3 m3 => ?_) m1
      · rcases List.mem_append.mp ha with q | q
        · exact Int32.le_trans hl.2.2.1 (hr a q)
        · rw [List.mem_singleton.mp q, j7]
          exact Int32.le_refl _
      · rw [e2, pbd_t] at kg
        refine kg s2 _ rfl h O3 ?_ hr3 hS3 m3
        rw [hO3, List.map_append, List.map_cons, cdm_cst, hsg, ← List.append_assoc O2, hO]
        simp only [List.append_assoc, List.cons_append, List.nil_append]
    by_cases h2 : c < 2
    · rw [if_pos h2] at key
      refine t8a hB hd j2 j3 j1 hsg j4 j5 j6 j7 hl.1 (j9 h2) ?_
      rw [hun]
      exact key
    · rw [if_neg h2] at key
      refine t8b hB hd j2 j3 j1 hsg j4 j5 j6 j7 hl.1 (j10 (by omega)) ?_
      rw [hun]
      exact key
  · rw [if_neg hj] at kg
    exact kg s [] rfl hh O (by rw [List.map_nil, List.append_nil]) hh2 (SP_j hc hS hj) m
theorem ce_0 {F : Nat} (IH : CG d g N P f sz tc Y0 S0 Q F) {c s o : Nat} {m : Int32} {H O : List Int32} (hc : c < 4) (hs : s ≤ sz) (hcn : cnt H = o) (ho : o ≤ 5) (hF : (sz - s) * 6 + hgt c < F + 1) (hR : RT (pr c) H) (hm : pm c m (tok f sz s)) (kf : (∀ s1 l, pgo f sz (F + 1) c s o = (false, s1, l) → QF g N P tc Y0 S0 Q s1)) (kg : (∀ s1 l, pgo f sz (F + 1) c s o = (true, s1, l) → ∀ h O1 : List Int32, O1 ++ h = O ++ l.map cdm → (∀ a, a ∈ h → lo c ≤ rnk a) → SP c (tok f sz s1) (h ++ H) → ∀ m1 : Int32, EW d g N P f sz tc Y0 S0 Q 0 m1 (h ++ H) O1 s1)) : EW d g N P f sz tc Y0 S0 Q 1 m H O s := by
  have hl := lf4 c hc
  have hl5 := lnk_b c
  have hg := hl5.2 hc
  rw [pgo_c hc] at kf kg
  refine IH.1 (lnk c) s o m H O hl5.1 hs hcn ho (by omega) (hR.up hl.2.2.2) (pm_l hc hm) (fun s1 l e => kf s1 [] (by rw [e, pbd_f])) (fun s1 l1 e h O1 hO hr hS m1 => ?_)
  have hq := pgo_ok F _ _ _ _ _ hs e
  have hq3 := hq.2.2.1 hl5.1
  rw [e, pbd_t] at kf kg
  refine IH.2.2 c s1 o H h O1 hc hq.2.1 hcn ho (by omega) hR (fun a ha => Int32.le_trans hl.2.2.1 (hr a ha)) hS (fun s2 l e2 => kf s2 [] (by rw [e2, pbd_f])) (fun s2 l2 e2 h3 O3 hO3 hr3 hS3 m3 => ?_) m1
  rw [e2, pbd_t] at kg
  refine kg s2 _ rfl h3 O3 ?_ hr3 hS3 m3
  rw [hO3, hO, List.map_append, List.append_assoc]
theorem ce_4 {F : Nat} (IH : CG d g N P f sz tc Y0 S0 Q F) (hB : BH f sz tc Y0 S0) (hd : 4 ≤ d) {s o : Nat} {m : Int32} {H O : List Int32} (hs : s ≤ sz) (hcn : cnt H = o) (ho : o ≤ 5) (hF : (sz - s) * 6 + 3 < F + 1) (hR : RT 4 H) (hm : m = 1) (kf : (∀ s1 l, pgo f sz (F + 1) 4 s o = (false, s1, l) → QF g N P tc Y0 S0 Q s1)) (kg : (∀ s1 l, pgo f sz (F + 1) 4 s o = (true, s1, l) → ∀ h O1 : List Int32, O1 ++ h = O ++ l.map cdm → (∀ a, a ∈ h → lo 4 ≤ rnk a) → SP 4 (tok f sz s1) (h ++ H) → ∀ m1 : Int32, EW d g N P f sz tc Y0 S0 Q 0 m1 (h ++ H) O1 s1)) : EW d g N P f sz tc Y0 S0 Q 1 m H O s := by
  have g4 : hgt 4 = 3 := by decide
  have g2 : hgt 2 = 2 := by decide
  rw [pgo_4] at kf kg
  by_cases h5 : tok f sz s = 5
  · rw [if_pos h5] at kf kg
    have hlt := tok_v hs h5 (by decide)
    have hn := nxt_b (f := f) hlt
    subst hm
    by_cases ho5 : 5 ≤ o
    · rw [if_pos ho5] at kf
      exact t2f (m := 1) hB hd h5 (by omega) (kf s [] rfl)
    · rw [if_neg ho5] at kf kg
      refine t2 (m := 1) hB hd h5 (by omega) ?_
      refine IH.1 4 (nxt f sz s) (o + 1) 1 (13 :: H) O (by decide) hn.2 ((cnt_yes (Or.inr (Or.inl rfl))).trans (by rw [hcn])) (by omega) (by omega) (show rnk 13 < pr 4 by decide) ⟨fun _ => rfl, fun q => absurd q (by decide)⟩ (fun s1 l e => kf s1 [] (by rw [e, pbd_f])) (fun s1 l1 e h O1 hO hr hS m1 => ?_)
      rw [e, pbd_t] at kg
      rw [← app_cons] at hS ⊢
      refine kg s1 _ rfl (h ++ [13]) O1 ?_ (fun a ha => ?_) hS m1
      · rw [← List.append_assoc, hO, List.map_append, List.append_assoc]
        rfl
      · rcases List.mem_append.mp ha with q | q
        · exact hr a q
        · rw [List.mem_singleton.mp q]
          decide
  · rw [if_neg h5] at kf kg
    refine IH.1 2 s o m H O (by decide) hs hcn ho (by omega) (hR.up (by decide)) ⟨fun q => absurd q (by decide), fun _ => Or.inr h5⟩ (fun s1 l e => kf s1 [] (by rw [e, pbd_f])) (fun s1 l1 e h O1 hO hr hS m1 => ?_)
    have hq := pgo_ok F _ _ _ _ _ hs e
    have hq3 := hq.2.2.1 (by decide)
    rw [e, pbd_t] at kf kg
    have hr' : ∀ a, a ∈ h → lo 4 ≤ rnk a := fun a ha => Int32.le_trans (by decide) (hr a ha)
    by_cases hu : tok f sz s1 = 60 ∨ tok f sz s1 = 61
    · rw [if_pos hu] at kf kg
      have ht := tok_r hq.2.1 hB.2.2.2.2.2.2
      obtain ⟨j1, j2, j3, j4, j5, j6, j7⟩ := lf60 _ ht hu
      have hlt : s1 < sz := by
        rcases hu with q | q
        · exact tok_v hq.2.1 q (by decide)
        · exact tok_v hq.2.1 q (by decide)
      have hn := nxt_b (f := f) hlt
      obtain ⟨sg, hsg⟩ : ∃ sg, 10 - cst (tok f sz s1) = sg := ⟨_, rfl⟩
      rw [hsg] at j4 j5 j6 j7
      have hun : unw 5 (h ++ H) = (h, H) := unw_app (fun a ha => hr a ha) (hR.up (by decide))
      have key : EW d g N P f sz tc Y0 S0 Q 1 0 (sg :: H) (O1 ++ h) (nxt f sz s1) := by
        refine IH.1 2 (nxt f sz s1) o 0 (sg :: H) (O1 ++ h) (by decide) hn.2 ((cnt_no j5).trans hcn) ho (by omega) (show rnk sg < pr 2 by rw [j6]; decide) ⟨fun q => absurd q (by decide), fun _ => Or.inl rfl⟩ (fun s2 l e2 => kf s2 [] (by rw [e2, pbd_f])) (fun s2 l2 e2 h2 O2 hO2 hr2 hS2 m2 => ?_)
        rw [e2, pbd_t] at kg
        rw [← app_cons] at hS2 ⊢
        refine kg s2 _ rfl (h2 ++ [sg]) O2 ?_ (fun a ha => ?_) ⟨fun _ => hS2.1 (by decide), fun _ _ => hS2.2.1 (by decide) (by decide), fun _ _ => ⟨h2, sg, H, app_cons _ _ _, fun a ha => hr2 a ha, j6⟩, fun q => absurd q (by decide), fun q => absurd q (by decide)⟩ m2
        · rw [← List.append_assoc, hO2, hO, List.map_append, List.map_append, List.map_cons, cdm_cst, hsg]
          simp only [List.append_assoc, List.map_nil]
        · rcases List.mem_append.mp ha with q | q
          · exact Int32.le_trans (by decide) (hr2 a q)
          · rw [List.mem_singleton.mp q, j6]
            decide
      cases H with
      | nil =>
        refine t8e hB hd j2 j3 j1 hsg j4 j5 j6 (by rw [hun]) j7 ?_
        rw [hun]
        exact key
      | cons a r =>
        refine t8n hB hd j2 j3 j1 hsg j4 j5 j6 (a := a) (r := r) (by rw [hun]) (fun q => absurd (show rnk a < 4 from hR) (by rw [q]; decide)) j7 ?_
        rw [hun]
        exact key
    · rw [if_neg hu] at kg
      exact kg s1 l1 rfl h O1 hO hr' ⟨fun _ => hS.1 (by decide), fun _ _ => hS.2.1 (by decide) (by decide), fun _ q => absurd q hu, fun q => absurd q (by decide), fun q => absurd q (by decide)⟩ m1
theorem ce_5 {F : Nat} (IH : CG d g N P f sz tc Y0 S0 Q F) (hB : BH f sz tc Y0 S0) (hd : 4 ≤ d) {s o : Nat} {m : Int32} {H O : List Int32} (hs : s ≤ sz) (hcn : cnt H = o) (ho : o ≤ 5) (hF : (sz - s) * 6 < F + 1) (hm : m = 0 ∨ ¬ tok f sz s = 5) (kf : (∀ s1 l, pgo f sz (F + 1) 5 s o = (false, s1, l) → QF g N P tc Y0 S0 Q s1)) (kg : (∀ s1 l, pgo f sz (F + 1) 5 s o = (true, s1, l) → ∀ m1 : Int32, EW d g N P f sz tc Y0 S0 Q 0 m1 (unw 7 H).2 (O ++ l.map cdm ++ (unw 7 H).1) s1)) : EW d g N P f sz tc Y0 S0 Q 1 m H O s := by
  have g0 : hgt 0 = 5 := by decide
  rw [pgo_5] at kf kg
  by_cases h12 : tok f sz s = 12
  · rw [if_pos (Or.inl h12)] at kg
    exact t1a hB hd h12 (kg _ _ rfl _)
  · by_cases hnm : 6 ≤ tok f sz s ∧ tok f sz s ≤ 11
    · rw [if_pos (Or.inr hnm)] at kg
      exact t1b hB hd hnm (kg _ _ rfl _)
    · rw [if_neg (fun q => q.elim h12 hnm)] at kf kg
      by_cases h45 : tok f sz s = 45
      · have hn40 : ¬ tok f sz s = 40 := by rw [h45]; decide
        have hlt := tok_v hs h45 (by decide)
        have hn := nxt_b (f := f) hlt
        by_cases ho5 : 5 ≤ o
        · rw [if_pos (Or.inr ho5)] at kf
          exact t3f hB hd h45 (by omega) (kf s [] rfl)
        · rw [if_neg (fun q => q.elim (fun q => q (Or.inl h45)) ho5), if_neg hn40] at kf kg
          refine t3 hB hd h45 (by omega) ?_
          refine IH.2.1 (nxt f sz s) (o + 1) 0 (19 :: H) O hn.2 ((cnt_yes (Or.inr (Or.inr rfl))).trans (by rw [hcn])) (by omega) (by omega) (Or.inl rfl) (fun s1 l e => kf s1 [] (by rw [e, pbd_f])) (fun s1 l1 e m1 => ?_)
          rw [e, pbd_t] at kg
          have h := kg s1 _ rfl m1
          rw [unw, if_pos (show (7 : Int32) ≤ rnk 19 by decide)]
          rw [List.map_append] at h
          show EW d g N P f sz tc Y0 S0 Q 0 m1 (unw 7 H).2 (O ++ l1.map cdm ++ 19 :: (unw 7 H).1) s1
          rw [← app_cons, List.append_assoc O]
          exact h
      · by_cases h40 : tok f sz s = 40
        · have hlt := tok_v hs h40 (by decide)
          have hn := nxt_b (f := f) hlt
          by_cases ho5 : 5 ≤ o
          · rw [if_pos (Or.inr ho5)] at kf
            exact t4f hB hd h40 (by omega) (kf s [] rfl)
          · rw [if_neg (fun q => q.elim (fun q => q (Or.inr h40)) ho5), if_pos h40] at kf kg
            refine t4 hB hd h40 (by omega) ?_
            refine IH.1 0 (nxt f sz s) (o + 1) 1 (0 :: H) O (by decide) hn.2 ((cnt_yes (Or.inl rfl)).trans (by rw [hcn])) (by omega) (by omega) (show rnk 0 < pr 0 by decide) ⟨fun _ => rfl, fun q => absurd q (by decide)⟩ (fun s1 l e => kf s1 [] (by rw [e, pbd_f])) (fun s1 l1 e h O1 hO hr hS m1 => ?_)
            have hq := pgo_ok F _ _ _ _ _ hn.2 e
            rw [e, pbd_t] at kf kg
            have hun : unw 1 (h ++ 0 :: H) = (h, 0 :: H) := unw_app (fun a ha => hr a ha) (show rnk 0 < 1 by decide)
            by_cases h41 : tok f sz s1 = 41
            · rw [if_pos h41] at kg
              refine t7 hB hd h41 (a := 0) (r := H) (by rw [hun]) ?_
              rw [hun]
              show EW d g N P f sz tc Y0 S0 Q 0 m1 (unw 7 H).2 (O1 ++ h ++ (unw 7 H).1) (nxt f sz s1)
              rw [hO]
              exact kg _ _ rfl _
            · rw [if_neg h41] at kf
              exact e_flt hB hd hq.2.1 hS (fun _ => ⟨0, H, by rw [hun]⟩) (fun q => absurd q h41) (kf s1 [] rfl)
        · rw [if_pos (Or.inl (fun q => q.elim h45 h40))] at kf
          by_cases h5 : tok f sz s = 5
          · obtain rfl := hm.resolve_right (fun q => q h5)
            exact t5m (m := 0) hB hd h5 (kf s [] rfl)
          · exact t5 hB hd h12 hnm h45 h40 h5 (kf s [] rfl)
theorem ceg (hB : BH f sz tc Y0 S0) (hd : 4 ≤ d) : ∀ F, CG d g N P f sz tc Y0 S0 Q F
  | 0 => ⟨fun _ _ _ _ _ _ _ _ _ _ h => absurd h (Nat.not_lt_zero _), fun _ _ _ _ _ _ _ _ h => absurd h (Nat.not_lt_zero _), fun _ _ _ _ _ _ _ _ _ _ h => absurd h (Nat.not_lt_zero _)⟩
  | F + 1 => by
    have IH := ceg hB hd F
    refine ⟨fun c s o m H O hc hs hcn ho hF hR hm kf kg => ?_, fun s o m H O hs hcn ho hF hm kf kg => ce_5 IH hB hd hs hcn ho hF hm kf kg, fun c s o H hh O hc hs hcn ho hF hR hh2 hS kf kg m => ce_6 IH hB hd hc hs hcn ho hF hR hh2 hS kf kg m⟩
    by_cases h4 : c < 4
    · exact ce_0 IH h4 hs hcn ho hF hR hm kf kg
    · by_cases e4 : c = 4
      · subst e4
        have g4 : hgt 4 = 3 := by decide
        exact ce_4 IH hB hd hs hcn ho (by omega) hR (hm.1 (Or.inr (Or.inr rfl))) kf kg
      · obtain rfl : c = 5 := by omega
        have g5 : hgt 5 = 0 := by decide
        refine ce_5 IH hB hd hs hcn ho (by omega) (hm.2 (Or.inr (Or.inr rfl))) kf (fun s1 l e m1 => ?_)
        have hun : unw 7 H = ([], H) := unw_rt hR
        have h := kg s1 l e [] (O ++ l.map cdm) (List.append_nil _) (fun a ha => absurd ha (List.not_mem_nil)) ⟨fun q => absurd rfl q, fun q => absurd rfl q, fun q => absurd q (by decide), fun q => absurd q (by decide), fun q => absurd q (by decide)⟩ m1
        rw [hun]
        show EW d g N P f sz tc Y0 S0 Q 0 m1 H (O ++ l.map cdm ++ []) s1
        rw [List.append_nil]
        exact h
end
