/-! TEXTS: the same tape read alike; what is read is a law well made -/
theorem spn_x {p : Int32 → Bool} {f f' : Nat → Int32} : ∀ (k i : Nat), (∀ j, i ≤ j → j < i + k → f j = f' j) → spn p f k i = spn p f' k i
  | 0, _, _ => rfl
  | k + 1, i, h => by
    rw [spn, spn, h i (Nat.le_refl _) (by omega), spn_x k (i + 1) (fun j h1 h2 => h j (by omega) (by omega))]
theorem num_x {f f' : Nat → Int32} : ∀ (k i : Nat) (v : Int32), (∀ j, i ≤ j → j < i + k → f j = f' j) → num f k i v = num f' k i v
  | 0, _, _, _ => rfl
  | k + 1, i, v, h => by
    rw [num, num, h i (Nat.le_refl _) (by omega), num_x k (i + 1) _ (fun j h1 h2 => h j (by omega) (by omega))]
theorem eqw_x {f f' : Nat → Int32} {s a k : Nat} (h : ∀ c, c < k → f (s + (a + c) - a) = f' (s + (a + c) - a)) (q : eqw f s a k a = true) : eqw f' s a k a = true :=
  (eqw_iff _ _).mpr (fun c hc => ((eqw_iff _ _).mp q c hc).trans (h c hc))
theorem isw_x {f f' : Nat → Int32} {s e : Nat} (h : ∀ k, k < e → f k = f' k) : isw f s e = isw f' s e := by
  funext a b
  unfold isw
  by_cases q : b - a = e - s
  · rw [if_pos q, if_pos q]
    have h1 : ∀ c, c < b - a → f (s + (a + c) - a) = f' (s + (a + c) - a) := fun c hc => h _ (by omega)
    cases h2 : eqw f s a (b - a) a with
    | true => exact (eqw_x h1 h2).symm
    | false =>
      cases h3 : eqw f' s a (b - a) a with
      | false => rfl
      | true => exact absurd ((eqw_x (fun c hc => (h1 c hc).symm) h3).symm.trans h2) (by decide)
  · rw [if_neg q, if_neg q]
section
variable {f f' : Nat → Int32} {sz : Nat} (hx : ∀ k, k < sz → f k = f' k)
theorem tst_x (hx : ∀ k, k < sz → f k = f' k) {i : Nat} : tst f sz i = tst f' sz i := spn_x _ _ (fun j h1 h2 => hx j (by omega))
theorem ten_x (hx : ∀ k, k < sz → f k = f' k) {s : Nat} (hs : s ≤ sz) : ten f sz s = ten f' sz s := by
  unfold ten
  by_cases e : s = sz
  · rw [if_pos e, if_pos e]
  · rw [if_neg e, if_neg e, hx s (by omega), spn_x (f := f) (f' := f') _ _ (fun j h1 h2 => hx j (by omega)), spn_x (p := pdg) (f := f) (f' := f') _ _ (fun j h1 h2 => hx j (by omega))]
theorem tok_x (hx : ∀ k, k < sz → f k = f' k) {s : Nat} (hs : s ≤ sz) : tok f sz s = tok f' sz s := by
  unfold tok
  by_cases e : s = sz
  · rw [if_pos e, if_pos e]
  · have e1 : spn plt f (sz - s) s = spn plt f' (sz - s) s := spn_x _ _ (fun j h1 h2 => hx j (by omega))
    have e2 : spn pdg f (sz - s) s = spn pdg f' (sz - s) s := spn_x _ _ (fun j h1 h2 => hx j (by omega))
    have hg := spn_ge plt f' (sz - s) s
    have e3 : isw f s (spn plt f' (sz - s) s) = isw f' s (spn plt f' (sz - s) s) := isw_x (fun k hk => hx k (by omega))
    rw [if_neg e, if_neg e, hx s (by omega), e1, e2, e3]
theorem nxt_x (hx : ∀ k, k < sz → f k = f' k) {s : Nat} (hs : s ≤ sz) : nxt f sz s = nxt f' sz s := by
  unfold nxt
  rw [ten_x hx hs]
  exact tst_x hx
theorem opd_x (hx : ∀ k, k < sz → f k = f' k) {s : Nat} (hs : s ≤ sz) : opd f sz s = opd f' sz s := by
  unfold opd
  rw [tok_x hx hs, num_x _ _ _ (fun j h1 h2 => hx j (by omega))]
theorem pbd_x {r r' : Bool × Nat × List Int32} {k k' : Nat → List Int32 → Bool × Nat × List Int32} (h : r = r') (hk : ∀ s l, r = (true, s, l) → k s l = k' s l) : pbd r k = pbd r' k' := by
  subst h
  obtain ⟨b, s, l, rfl⟩ := tri r
  cases b with
  | false => rfl
  | true => exact hk s l rfl
theorem pgo_x (hx : ∀ k, k < sz → f k = f' k) : ∀ (F c s o : Nat), s ≤ sz → pgo f sz F c s o = pgo f' sz F c s o
  | 0, _, _, _, _ => rfl
  | F + 1, c, s, o, hs => by
    by_cases hc : c < 4
    · rw [pgo_c hc, pgo_c hc]
      exact pbd_x (pgo_x hx F _ _ _ hs) (fun s1 l1 e => pbd_x (pgo_x hx F _ _ _ (pgo_ok F _ _ _ _ _ hs e).2.1) (fun _ _ _ => rfl))
    · by_cases h4 : c = 4
      · subst h4
        rw [pgo_4, pgo_4, tok_x hx hs]
        by_cases ht : tok f' sz s = 5
        · rw [if_pos ht, if_pos ht]
          have hn := nxt_b (f := f') (tok_v hs ht (by decide))
          by_cases ho : 5 ≤ o
          · rw [if_pos ho, if_pos ho]
          · rw [if_neg ho, if_neg ho, nxt_x hx hs]
            exact pbd_x (pgo_x hx F _ _ _ hn.2) (fun _ _ _ => rfl)
        · rw [if_neg ht, if_neg ht]
          refine pbd_x (pgo_x hx F _ _ _ hs) (fun s1 l1 e => ?_)
          have q := pgo_ok F _ _ _ _ _ hs e
          show (if tok f sz s1 = 60 ∨ tok f sz s1 = 61 then _ else _) = (if tok f' sz s1 = 60 ∨ tok f' sz s1 = 61 then _ else _)
          rw [tok_x hx q.2.1, nxt_x hx q.2.1]
          by_cases hu : tok f' sz s1 = 60 ∨ tok f' sz s1 = 61
          · rw [if_pos hu, if_pos hu]
            have hlt : s1 < sz := by
              rcases hu with hu | hu
              · exact tok_v q.2.1 hu (by decide)
              · exact tok_v q.2.1 hu (by decide)
            exact pbd_x (pgo_x hx F _ _ _ (nxt_b (f := f') hlt).2) (fun _ _ _ => rfl)
          · rw [if_neg hu, if_neg hu]
      · by_cases h5 : c = 5
        · subst h5
          rw [pgo_5, pgo_5, tok_x hx hs, nxt_x hx hs, opd_x hx hs]
          by_cases ht : tok f' sz s = 12 ∨ (6 ≤ tok f' sz s ∧ tok f' sz s ≤ 11)
          · rw [if_pos ht, if_pos ht]
          · rw [if_neg ht, if_neg ht]
            by_cases hno : ¬ (tok f' sz s = 45 ∨ tok f' sz s = 40) ∨ 5 ≤ o
            · rw [if_pos hno, if_pos hno]
            · rw [if_neg hno, if_neg hno]
              have hlt : s < sz := tok_lt (f := f') hs (fun q => hno (Or.inl (by rw [q]; decide)))
              have hn := nxt_b (f := f') hlt
              by_cases hp : tok f' sz s = 40
              · rw [if_pos hp, if_pos hp]
                refine pbd_x (pgo_x hx F _ _ _ hn.2) (fun s1 l1 e => ?_)
                have q := pgo_ok F _ _ _ _ _ hn.2 e
                show (if tok f sz s1 = 41 then _ else _) = (if tok f' sz s1 = 41 then _ else _)
                rw [tok_x hx q.2.1, nxt_x hx q.2.1]
              · rw [if_neg hp, if_neg hp]
                exact pbd_x (pgo_x hx F _ _ _ hn.2) (fun _ _ _ => rfl)
        · obtain ⟨e, rfl⟩ : ∃ e, c = 6 + e := ⟨c - 6, by omega⟩
          rw [pgo_6, pgo_6, tok_x hx hs]
          by_cases ht : jnt e (tok f' sz s) = true
          · rw [if_pos ht, if_pos ht, nxt_x hx hs]
            have hn := nxt_b (f := f') (jnt_lt hs ht)
            exact pbd_x (pgo_x hx F _ _ _ hn.2) (fun s1 l1 e => pbd_x (pgo_x hx F _ _ _ (pgo_ok F _ _ _ _ _ hn.2 e).2.1) (fun _ _ _ => rfl))
          · rw [if_neg ht, if_neg ht]
theorem pprt_x (hx : ∀ k, k < sz → f k = f' k) {F p s : Nat} (hp : p < 3) (hs : s ≤ sz) : pprt f sz F p s = pprt f' sz F p s := by
  unfold pprt
  rw [tok_x hx hs, nxt_x hx hs]
  by_cases hk : tok f' sz s = nI p
  · rw [if_pos hk, if_pos hk]
    have hn := nxt_b (f := f') (tok_v hs hk (nI_nm (by omega)))
    refine pbd_x (pgo_x hx F _ _ _ hn.2) (fun s1 l1 e => ?_)
    have q := pgo_ok F _ _ _ _ _ hn.2 e
    show (if tok f sz s1 = 59 then _ else _) = (if tok f' sz s1 = 59 then _ else _)
    rw [tok_x hx q.2.1, nxt_x hx q.2.1]
  · rw [if_neg hk, if_neg hk]
end
section
variable {f : Nat → Int32} {sz : Nat}
theorem opd_b {s : Nat} (h : tok f sz s = 12 ∨ (6 ≤ tok f sz s ∧ tok f sz s ≤ 11)) : ∃ j, j < 10006 ∧ opd f sz s = nI j := by
  by_cases h12 : tok f sz s = 12
  · have hp := tok_12 h12
    obtain ⟨m, e1, e2⟩ := num_b (f := f) (sz - s) s 0 0 0 rfl (by decide) (by omega)
    have hm : m < 10000 := Nat.lt_of_lt_of_le e2 (by rw [Nat.zero_add]; exact Nat.pow_le_pow_right (n := 10) (by decide) hp.2)
    refine ⟨m, by omega, ?_⟩
    unfold opd
    rw [if_pos h12, e1]
  · have hn := h.resolve_left h12
    obtain ⟨j, hj, ej⟩ := nI_of2 (x := tok f sz s) (M := 11) (n := 11) rfl (fun q => absurd (Int32.lt_of_le_of_lt hn.1 q) (by decide)) hn.2
    have h6 : 6 ≤ j := by
      have h1 := hn.1
      rw [ej] at h1
      exact (nI_leI (a := 6) (b := j) (by decide) (by omega)).mp h1
    refine ⟨10000 + j - 6, by omega, ?_⟩
    unfold opd
    rw [if_neg h12, ej, show (10000 : Int32) + nI j = nI (10000 + j) from nI_add 10000 j, show nI (10000 + j) - 6 = nI (10000 + j - 6) from pk_sub (a := 10000 + j) (b := 6) (by omega)]
theorem nI_b {j : Nat} (h : j < 10006) : ¬ nI j < 0 ∧ nI j < 10006 ∧ -9 ≤ nI j := ⟨nI_pos (by omega), nI_lt (a := j) (b := 10006) h (by decide), Int32.le_trans (by decide) (nI_pos' (n := j) (by omega))⟩
theorem cst_m (t : Int32) : -9 ≤ cst t := (cst_b t).2.2
/-- what is read: its steps are steps, one number is left -/
theorem pgo_sk : ∀ (F c s o s1 : Nat) (l : List Int32), s ≤ sz → pgo f sz F c s o = (true, s1, l) → (∀ x, x ∈ l → -9 ≤ x) ∧ ∀ h, (c ≤ 5 → skl l h = some (h + 1)) ∧ (6 ≤ c → skl l (h + 1) = some (h + 1))
  | 0, c, s, o, s1, l, _, h => by
    rw [pgo] at h
    cases h
  | F + 1, c, s, o, s1, l, hs, h => by
    have hl := lnk_b (c - 6)
    have hl2 := lnk_b c
    by_cases hc : c < 4
    · rw [pgo_c hc] at h
      obtain ⟨sa, la, e1, h⟩ := pbd_ok h
      obtain ⟨sb, lc, e2, h⟩ := pbd_ok h
      have q1 := pgo_ok F _ _ _ _ _ hs e1
      have k1 := pgo_sk F _ _ _ _ _ hs e1
      have k2 := pgo_sk F _ _ _ _ _ q1.2.1 e2
      cases h
      refine ⟨fun x hx => (List.mem_append.mp hx).elim (k1.1 x) (k2.1 x), fun h => ⟨fun _ => ?_, fun q => by omega⟩⟩
      rw [skl_app _ _ _ _ ((k1.2 h).1 hl2.1)]
      exact (k2.2 h).2 (by omega)
    · by_cases h4 : c = 4
      · subst h4
        rw [pgo_4] at h
        by_cases ht : tok f sz s = 5
        · rw [if_pos ht] at h
          have hn := nxt_b (f := f) (tok_v hs ht (by decide))
          by_cases ho : 5 ≤ o
          · rw [if_pos ho] at h
            cases h
          · rw [if_neg ho] at h
            obtain ⟨sa, la, e1, h⟩ := pbd_ok h
            have k1 := pgo_sk F _ _ _ _ _ hn.2 e1
            cases h
            refine ⟨fun x hx => (List.mem_append.mp hx).elim (k1.1 x) (fun q => by rw [List.mem_singleton.mp q]; decide), fun h => ⟨fun _ => ?_, fun q => by omega⟩⟩
            rw [skl_app _ _ _ _ ((k1.2 h).1 (by decide)), skl, if_pos (by decide), if_pos (Or.inl rfl), if_pos (by omega), skl]
        · rw [if_neg ht] at h
          obtain ⟨sa, la, e1, h⟩ := pbd_ok h
          have q1 := pgo_ok F _ _ _ _ _ hs e1
          have k1 := pgo_sk F _ _ _ _ _ hs e1
          by_cases hu : tok f sz sa = 60 ∨ tok f sz sa = 61
          · rw [if_pos hu] at h
            have hlt : sa < sz := by
              rcases hu with hu | hu
              · exact tok_v q1.2.1 hu (by decide)
              · exact tok_v q1.2.1 hu (by decide)
            have hn := nxt_b (f := f) hlt
            obtain ⟨sb, lc, e2, h⟩ := pbd_ok h
            have k2 := pgo_sk F _ _ _ _ _ hn.2 e2
            cases h
            refine ⟨fun x hx => (List.mem_append.mp hx).elim (fun q => (List.mem_append.mp q).elim (k1.1 x) (k2.1 x)) (fun q => by rw [List.mem_singleton.mp q]; exact cst_m _), fun h => ⟨fun _ => ?_, fun q => by omega⟩⟩
            rw [List.append_assoc, skl_app _ _ _ _ ((k1.2 h).1 (by decide)), skl_app _ _ _ _ ((k2.2 (h + 1)).1 (by decide)), skl_bin (by omega), skl]
            exact congrArg some (by omega)
          · rw [if_neg hu] at h
            cases h
            exact ⟨k1.1, fun h => ⟨fun _ => (k1.2 h).1 (by decide), fun q => absurd q (by decide)⟩⟩
      · by_cases h5 : c = 5
        · subst h5
          rw [pgo_5] at h
          by_cases ht : tok f sz s = 12 ∨ (6 ≤ tok f sz s ∧ tok f sz s ≤ 11)
          · rw [if_pos ht] at h
            obtain ⟨j, hj, ej⟩ := opd_b ht
            have hb := nI_b hj
            cases h
            rw [ej]
            refine ⟨fun x hx => by rw [List.mem_singleton.mp hx]; exact hb.2.2, fun h => ⟨fun _ => ?_, fun q => by omega⟩⟩
            rw [skl, if_neg hb.1, if_pos hb.2.1, skl]
          · rw [if_neg ht] at h
            by_cases hno : ¬ (tok f sz s = 45 ∨ tok f sz s = 40) ∨ 5 ≤ o
            · rw [if_pos hno] at h
              cases h
            · rw [if_neg hno] at h
              have hlt : s < sz := tok_lt hs (fun q => hno (Or.inl (by rw [q]; decide)))
              have hn := nxt_b (f := f) hlt
              by_cases hp : tok f sz s = 40
              · rw [if_pos hp] at h
                obtain ⟨sa, la, e1, h⟩ := pbd_ok h
                have k1 := pgo_sk F _ _ _ _ _ hn.2 e1
                by_cases hu : tok f sz sa = 41
                · rw [if_pos hu] at h
                  cases h
                  exact ⟨k1.1, fun h => ⟨fun _ => (k1.2 h).1 (by decide), fun q => by omega⟩⟩
                · rw [if_neg hu] at h
                  cases h
              · rw [if_neg hp] at h
                obtain ⟨sa, la, e1, h⟩ := pbd_ok h
                have k1 := pgo_sk F _ _ _ _ _ hn.2 e1
                cases h
                refine ⟨fun x hx => (List.mem_append.mp hx).elim (k1.1 x) (fun q => by rw [List.mem_singleton.mp q]; decide), fun h => ⟨fun _ => ?_, fun q => by omega⟩⟩
                rw [skl_app _ _ _ _ ((k1.2 h).1 (by decide)), skl, if_pos (by decide), if_pos (Or.inr rfl), if_pos (by omega), skl]
        · obtain ⟨e, rfl⟩ : ∃ e, c = 6 + e := ⟨c - 6, by omega⟩
          rw [pgo_6] at h
          by_cases ht : jnt e (tok f sz s) = true
          · rw [if_pos ht] at h
            have hn := nxt_b (f := f) (jnt_lt hs ht)
            obtain ⟨sa, la, e1, h⟩ := pbd_ok h
            obtain ⟨sb, lc, e2, h⟩ := pbd_ok h
            have q1 := pgo_ok F _ _ _ _ _ hn.2 e1
            have k1 := pgo_sk F _ _ _ _ _ hn.2 e1
            have k2 := pgo_sk F _ _ _ _ _ q1.2.1 e2
            cases h
            refine ⟨fun x hx => (List.mem_append.mp hx).elim (k1.1 x) (fun q => (List.mem_cons.mp q).elim (fun q => by rw [q]; exact cst_m _) (k2.1 x)), fun h => ⟨fun q => by omega, fun _ => ?_⟩⟩
            rw [skl_app _ _ _ _ ((k1.2 (h + 1)).1 (lnk_b e).1), skl_bin (by omega)]
            exact (k2.2 h).2 (by omega)
          · rw [if_neg ht] at h
            cases h
            exact ⟨fun x hx => absurd hx List.not_mem_nil, fun h => ⟨fun q => by omega, fun _ => rfl⟩⟩
theorem pprt_sk {F p s s1 : Nat} {l : List Int32} (hp : p < 3) (hs : s ≤ sz) (h : pprt f sz F p s = (true, s1, l)) : (∀ x, x ∈ l → -9 ≤ x) ∧ skl l 0 = some 1 := by
  obtain ⟨_, _, _, hk, s', hg, _⟩ := pprt_ok hp hs h
  have k := pgo_sk F _ _ _ _ _ (nxt_b (f := f) (tok_v hs hk (nI_nm (by omega)))).2 hg
  exact ⟨k.1, (k.2 0).1 (by decide)⟩
end
/-- where the fault is -/
theorem pgo_fb {f : Nat → Int32} {sz : Nat} : ∀ (F c s o s1 : Nat) (l : List Int32), s ≤ sz → pgo f sz F c s o = (false, s1, l) → s1 ≤ sz
  | 0, c, s, o, s1, l, hs, h => by
    rw [pgo] at h
    cases h
    exact hs
  | F + 1, c, s, o, s1, l, hs, h => by
    have key : ∀ (r : Bool × Nat × List Int32) (k : Nat → List Int32 → Bool × Nat × List Int32), (∀ s2 l2, r = (false, s2, l2) → s2 ≤ sz) → (∀ s2 l2, r = (true, s2, l2) → k s2 l2 = (false, s1, l) → s1 ≤ sz) → pbd r k = (false, s1, l) → s1 ≤ sz := by
      intro r k h1 h2 h3
      obtain ⟨b, s2, l2, rfl⟩ := tri r
      cases b with
      | false =>
        rw [pbd_f] at h3
        cases h3
        exact h1 _ _ rfl
      | true => exact h2 _ _ rfl h3
    by_cases hc : c < 4
    · rw [pgo_c hc] at h
      refine key _ _ (fun s2 l2 e => pgo_fb F _ _ _ _ _ hs e) (fun s2 l2 e h => ?_) h
      have q := pgo_ok F _ _ _ _ _ hs e
      exact key _ _ (fun s3 l3 e => pgo_fb F _ _ _ _ _ q.2.1 e) (fun s3 l3 e h => by cases h) h
    · by_cases h4 : c = 4
      · subst h4
        rw [pgo_4] at h
        by_cases ht : tok f sz s = 5
        · rw [if_pos ht] at h
          have hn := nxt_b (f := f) (tok_v hs ht (by decide))
          by_cases ho : 5 ≤ o
          · rw [if_pos ho] at h
            cases h
            exact hs
          · rw [if_neg ho] at h
            exact key _ _ (fun s3 l3 e => pgo_fb F _ _ _ _ _ hn.2 e) (fun s3 l3 e h => by cases h) h
        · rw [if_neg ht] at h
          refine key _ _ (fun s2 l2 e => pgo_fb F _ _ _ _ _ hs e) (fun s2 l2 e h => ?_) h
          have q := pgo_ok F _ _ _ _ _ hs e
          by_cases hu : tok f sz s2 = 60 ∨ tok f sz s2 = 61
          · rw [if_pos hu] at h
            have hlt : s2 < sz := by
              rcases hu with hu | hu
              · exact tok_v q.2.1 hu (by decide)
              · exact tok_v q.2.1 hu (by decide)
            exact key _ _ (fun s3 l3 e => pgo_fb F _ _ _ _ _ (nxt_b (f := f) hlt).2 e) (fun s3 l3 e h => by cases h) h
          · rw [if_neg hu] at h
            cases h
      · by_cases h5 : c = 5
        · subst h5
          rw [pgo_5] at h
          by_cases ht : tok f sz s = 12 ∨ (6 ≤ tok f sz s ∧ tok f sz s ≤ 11)
          · rw [if_pos ht] at h
            cases h
          · rw [if_neg ht] at h
            by_cases hno : ¬ (tok f sz s = 45 ∨ tok f sz s = 40) ∨ 5 ≤ o
            · rw [if_pos hno] at h
              cases h
              exact hs
            · rw [if_neg hno] at h
              have hlt : s < sz := tok_lt hs (fun q => hno (Or.inl (by rw [q]; decide)))
              have hn := nxt_b (f := f) hlt
              by_cases hp : tok f sz s = 40
              · rw [if_pos hp] at h
                refine key _ _ (fun s3 l3 e => pgo_fb F _ _ _ _ _ hn.2 e) (fun s3 l3 e h => ?_) h
                have q := pgo_ok F _ _ _ _ _ hn.2 e
                by_cases hu : tok f sz s3 = 41
                · rw [if_pos hu] at h
                  cases h
                · rw [if_neg hu] at h
                  cases h
                  exact q.2.1
              · rw [if_neg hp] at h
                exact key _ _ (fun s3 l3 e => pgo_fb F _ _ _ _ _ hn.2 e) (fun s3 l3 e h => by cases h) h
        · obtain ⟨e, rfl⟩ : ∃ e, c = 6 + e := ⟨c - 6, by omega⟩
          rw [pgo_6] at h
          by_cases ht : jnt e (tok f sz s) = true
          · rw [if_pos ht] at h
            have hn := nxt_b (f := f) (jnt_lt hs ht)
            refine key _ _ (fun s2 l2 e => pgo_fb F _ _ _ _ _ hn.2 e) (fun s2 l2 e h => ?_) h
            have q := pgo_ok F _ _ _ _ _ hn.2 e
            exact key _ _ (fun s3 l3 e => pgo_fb F _ _ _ _ _ q.2.1 e) (fun s3 l3 e h => by cases h) h
          · rw [if_neg ht] at h
            cases h
theorem pprt_fb {f : Nat → Int32} {sz F p s s1 : Nat} {l : List Int32} (hs : s ≤ sz) (h : pprt f sz F p s = (false, s1, l)) : s1 ≤ sz := by
  unfold pprt at h
  by_cases ht : tok f sz s = nI p
  · rw [if_pos ht] at h
    by_cases hlt : s < sz
    · have hn := nxt_b (f := f) hlt
      obtain ⟨b, s2, l2, e⟩ := tri (pgo f sz F 0 (nxt f sz s) 0)
      rw [e] at h
      cases b with
      | false =>
        rw [pbd_f] at h
        cases h
        exact pgo_fb F _ _ _ _ _ hn.2 e
      | true =>
        rw [pbd_t] at h
        have q := pgo_ok F _ _ _ _ _ hn.2 e
        by_cases hu : tok f sz s2 = 59
        · rw [if_pos hu] at h
          cases h
        · rw [if_neg hu] at h
          cases h
          exact q.2.1
    · have es : s = sz := by omega
      subst es
      have hn : nxt f s s ≤ s := by
        have h1 := ten_c (f := f) (sz := s) (Nat.le_refl s)
        exact (tst_b (f := f) h1.2).2
      obtain ⟨b, s2, l2, e⟩ := tri (pgo f s F 0 (nxt f s s) 0)
      rw [e] at h
      cases b with
      | false =>
        rw [pbd_f] at h
        cases h
        exact pgo_fb F _ _ _ _ _ hn e
      | true =>
        rw [pbd_t] at h
        have q := pgo_ok F _ _ _ _ _ hn e
        by_cases hu : tok f s s2 = 59
        · rw [if_pos hu] at h
          cases h
        · rw [if_neg hu] at h
          cases h
          exact q.2.1
  · rw [if_neg ht] at h
    cases h
    exact hs
theorem ix3 {R : Nat → Int32} {a b c : List Int32} (h : ∀ k (hk : k < (a ++ b ++ c).length), R k = (a ++ b ++ c)[k]) : (∀ k (hk : k < a.length), R (0 + k) = a[k]) ∧ (∀ k (hk : k < b.length), R (a.length + k) = b[k]) ∧ ∀ k (hk : k < c.length), R (a.length + b.length + k) = c[k] := by
  have h2 : ∀ k, k < a.length + b.length + c.length → (a ++ b ++ c)[k]? = some (R k) := fun k hk => by
    have hk' : k < (a ++ b ++ c).length := by
      rw [List.length_append, List.length_append]
      exact hk
    rw [List.getElem?_eq_getElem hk', h k hk']
  refine ⟨fun k hk => ?_, fun k hk => ?_, fun k hk => ?_⟩
  · have e := h2 k (by omega)
    rw [List.getElem?_append_left (by rw [List.length_append]; omega), List.getElem?_append_left hk, List.getElem?_eq_getElem hk] at e
    rw [Nat.zero_add]
    exact (Option.some.inj e).symm
  · have e := h2 (a.length + k) (by omega)
    rw [List.getElem?_append_left (by rw [List.length_append]; omega), List.getElem?_append_right (by omega), Nat.add_sub_cancel_left, List.getElem?_eq_getElem hk] at e
    exact (Option.some.inj e).symm
  · have e := h2 (a.length + b.length + k) (by omega)
    rw [List.getElem?_append_right (by rw [List.length_append]; omega), List.length_append, Nat.add_sub_cancel_left, List.getElem?_eq_getElem hk] at e
    exact (Option.some.inj e).symm
def zt3 (a b c p : Nat) : Nat := if p = 0 then 0 else if p = 1 then a else if p = 2 then a + b else a + b + c
theorem Lw_3 {R : tR} {l0 l1 l2 : List Int32} (h0 : R 1 0 = 0) (h1 : R 1 1 = nI l0.length) (h2 : R 1 2 = nI (l0.length + l1.length)) (h3 : R 1 3 = nI (l0.length + l1.length + l2.length)) (hb : l0.length + l1.length + l2.length ≤ 160) (hi : ∀ k (hk : k < (l0 ++ l1 ++ l2).length), R 0 k = (l0 ++ l1 ++ l2)[k]) (s0 : skl l0 0 = some 1) (s1 : skl l1 0 = some 1) (s2 : skl l2 0 = some 1) : Lw R (zt3 l0.length l1.length l2.length) := by
  obtain ⟨i0, i1, i2⟩ := ix3 hi
  refine ⟨fun p hp => ?_, fun p hp => ?_, hb, fun p hp => ?_⟩
  · have : p = 0 ∨ p = 1 ∨ p = 2 ∨ p = 3 := by omega
    rcases this with rfl | rfl | rfl | rfl
    · exact h0
    · exact h1
    · exact h2
    · exact h3
  · have : p = 0 ∨ p = 1 ∨ p = 2 := by omega
    rcases this with rfl | rfl | rfl
    · exact Nat.zero_le _
    · exact Nat.le_add_right _ _
    · exact Nat.le_add_right _ _
  · have : p = 0 ∨ p = 1 ∨ p = 2 := by omega
    rcases this with rfl | rfl | rfl
    · show sok (R 0) (l0.length - 0) 0 0 = some 1
      rw [Nat.sub_zero, skl_sok l0 0 0 i0, s0]
    · show sok (R 0) (l0.length + l1.length - l0.length) l0.length 0 = some 1
      rw [Nat.add_sub_cancel_left, skl_sok l1 _ 0 i1, s1]
    · show sok (R 0) (l0.length + l1.length + l2.length - (l0.length + l1.length)) (l0.length + l1.length) 0 = some 1
      rw [Nat.add_sub_cancel_left, skl_sok l2 _ 0 i2, s2]
theorem LM_3 {Y : tR} {tc : Nat} {R : tR} {l0 l1 l2 : List Int32} (h0 : Y 8 (4 * tc) = 0) (h1 : Y 8 (4 * tc + 1) = nI l0.length) (h2 : Y 8 (4 * tc + 2) = nI (l0.length + l1.length)) (h3 : Y 8 (4 * tc + 3) = nI (l0.length + l1.length + l2.length)) (hi : ∀ k (hk : k < (l0 ++ l1 ++ l2).length), R 0 k = (l0 ++ l1 ++ l2)[k]) (hm : ∀ x, x ∈ l0 ++ l1 ++ l2 → -9 ≤ x) (ho : OC (Y 7) (200 * tc) (l0.map cdm ++ l1.map cdm ++ l2.map cdm)) : LM Y tc R (zt3 l0.length l1.length l2.length) := by
  refine ⟨fun p hp => ?_, fun i hq => ?_⟩
  · have : p = 0 ∨ p = 1 ∨ p = 2 ∨ p = 3 := by omega
    rcases this with rfl | rfl | rfl | rfl
    · exact h0
    · exact h1
    · exact h2
    · exact h3
  · have hq2 : i < (l0 ++ l1 ++ l2).length := by
      rw [List.length_append, List.length_append]
      exact hq
    have hq3 : i < ((l0 ++ l1 ++ l2).map cdm).length := by
      rw [List.length_map]
      exact hq2
    rw [← List.map_append, ← List.map_append] at ho
    have e := ho i hq3
    rw [List.getElem_map] at e
    rw [hi i hq2]
    exact ⟨e, hm _ (List.getElem_mem _)⟩
