/-! TEXTS: what is read, purely -/
def nxt (f : Nat → Int32) (sz s : Nat) : Nat := tst f sz (ten f sz s)
/-- what an operand adds -/
def opd (f : Nat → Int32) (sz s : Nat) : Int32 := if tok f sz s = 12 then num f (sz - s) s 0 else 10000 + tok f sz s - 6
def pbd (r : Bool × Nat × List Int32) (k : Nat → List Int32 → Bool × Nat × List Int32) : Bool × Nat × List Int32 := if r.1 = true then k r.2.1 r.2.2 else (false, r.2.1, [])
def lnk (c : Nat) : Nat := if c = 0 then 1 else if c = 1 then 4 else if c = 2 then 3 else 5
/-- 0 .. 3 the chains by their levels, 4 not, 5 one, 6 .. 9 the rests of the chains -/
def pgo (f : Nat → Int32) (sz : Nat) : Nat → Nat → Nat → Nat → Bool × Nat × List Int32
  | 0, _, s, _ => (false, s, [])
  | F + 1, c, s, o =>
    if c < 4 then pbd (pgo f sz F (lnk c) s o) (fun s1 l1 => pbd (pgo f sz F (6 + c) s1 o) (fun s2 l2 => (true, s2, l1 ++ l2)))
    else if c = 4 then
      (if tok f sz s = 5 then (if 5 ≤ o then (false, s, []) else pbd (pgo f sz F 4 (nxt f sz s) (o + 1)) (fun s1 l1 => (true, s1, l1 ++ [-3])))
      else pbd (pgo f sz F 2 s o) (fun s1 l1 => if tok f sz s1 = 60 ∨ tok f sz s1 = 61 then pbd (pgo f sz F 2 (nxt f sz s1) o) (fun s2 l2 => (true, s2, l1 ++ l2 ++ [cst (tok f sz s1)])) else (true, s1, l1)))
    else if c = 5 then
      (if tok f sz s = 12 ∨ (6 ≤ tok f sz s ∧ tok f sz s ≤ 11) then (true, nxt f sz s, [opd f sz s])
      else if ¬ (tok f sz s = 45 ∨ tok f sz s = 40) ∨ 5 ≤ o then (false, s, [])
      else if tok f sz s = 40 then pbd (pgo f sz F 0 (nxt f sz s) (o + 1)) (fun s1 l1 => if tok f sz s1 = 41 then (true, nxt f sz s1, l1) else (false, s1, []))
      else pbd (pgo f sz F 5 (nxt f sz s) (o + 1)) (fun s1 l1 => (true, s1, l1 ++ [-9])))
    else if jnt (c - 6) (tok f sz s) = true then pbd (pgo f sz F (lnk (c - 6)) (nxt f sz s) o) (fun s1 l1 => pbd (pgo f sz F c s1 o) (fun s2 l2 => (true, s2, l1 ++ cst (tok f sz s) :: l2)))
    else (true, s, [])
def hgt (c : Nat) : Nat := if c = 0 then 5 else if c = 1 then 4 else if c = 2 then 2 else if c = 3 then 1 else if c = 4 then 3 else 0
section
variable {f : Nat → Int32} {sz : Nat}
theorem tst_b {i : Nat} (h : i ≤ sz) : i ≤ tst f sz i ∧ tst f sz i ≤ sz := by
  have h2 := spn_ge pbl f (sz - i) i
  unfold tst
  omega
theorem spn_1 {p : Int32 → Bool} {s : Nat} (h : s < sz) (hp : p (f s) = true) : s < spn p f (sz - s) s ∧ spn p f (sz - s) s ≤ sz := by
  obtain ⟨k, hk⟩ : ∃ k, sz - s = k + 1 := ⟨sz - s - 1, by omega⟩
  have h2 := spn_ge p f k (s + 1)
  rw [hk, spn, hp, cond_true]
  omega
theorem ten_b {s : Nat} (h : s < sz) : s < ten f sz s ∧ ten f sz s ≤ sz := by
  unfold ten
  rw [if_neg (by omega)]
  cases hl : plt (f s) with
  | true => exact spn_1 h hl
  | false =>
    cases hg : pdg (f s) with
    | true => exact spn_1 h hg
    | false => rw [cond_false, cond_false]; omega
theorem ten_c {s : Nat} (h : s ≤ sz) : s ≤ ten f sz s ∧ ten f sz s ≤ sz := by
  by_cases e : s = sz
  · unfold ten
    rw [if_pos e]
    omega
  · have := ten_b (f := f) (sz := sz) (s := s) (by omega)
    omega
theorem nxt_b {s : Nat} (h : s < sz) : s < nxt f sz s ∧ nxt f sz s ≤ sz := by
  have h1 := ten_b (f := f) h
  have h2 := tst_b (f := f) h1.2
  unfold nxt
  omega
theorem tok_e : tok f sz sz = -1 := if_pos rfl
theorem tok_lt {s : Nat} (hs : s ≤ sz) (h : ¬ tok f sz s = -1) : s < sz := by
  rcases Nat.lt_or_ge s sz with q | q
  · exact q
  · exact absurd (show tok f sz s = -1 by rw [show s = sz by omega]; exact tok_e) h
theorem tok_v {s : Nat} {v : Int32} (hs : s ≤ sz) (h : tok f sz s = v) (hv : ¬ v = -1) : s < sz := tok_lt hs (fun q => hv (h.symm.trans q))
theorem pbd_ok {r : Bool × Nat × List Int32} {k : Nat → List Int32 → Bool × Nat × List Int32} {s : Nat} {l : List Int32} (h : pbd r k = (true, s, l)) : ∃ s1 l1, r = (true, s1, l1) ∧ k s1 l1 = (true, s, l) := by
  obtain ⟨b, s1, l1⟩ := r
  cases b with
  | true => exact ⟨s1, l1, rfl, h⟩
  | false => exact absurd (show false = true from congrArg Prod.fst h) (by decide)
theorem pbd_t (s : Nat) (l : List Int32) (k : Nat → List Int32 → Bool × Nat × List Int32) : pbd (true, s, l) k = k s l := rfl
theorem pbd_f (s : Nat) (l : List Int32) (k : Nat → List Int32 → Bool × Nat × List Int32) : pbd (false, s, l) k = (false, s, []) := rfl
theorem pgo_c {F c s o : Nat} (hc : c < 4) : pgo f sz (F + 1) c s o = pbd (pgo f sz F (lnk c) s o) (fun s1 l1 => pbd (pgo f sz F (6 + c) s1 o) (fun s2 l2 => (true, s2, l1 ++ l2))) := by
  rw [pgo, if_pos hc]
theorem pgo_4 {F s o : Nat} : pgo f sz (F + 1) 4 s o = (if tok f sz s = 5 then (if 5 ≤ o then (false, s, []) else pbd (pgo f sz F 4 (nxt f sz s) (o + 1)) (fun s1 l1 => (true, s1, l1 ++ [-3])))
      else pbd (pgo f sz F 2 s o) (fun s1 l1 => if tok f sz s1 = 60 ∨ tok f sz s1 = 61 then pbd (pgo f sz F 2 (nxt f sz s1) o) (fun s2 l2 => (true, s2, l1 ++ l2 ++ [cst (tok f sz s1)])) else (true, s1, l1))) := by
  rw [pgo, if_neg (by decide), if_pos rfl]
theorem pgo_5 {F s o : Nat} : pgo f sz (F + 1) 5 s o = (if tok f sz s = 12 ∨ (6 ≤ tok f sz s ∧ tok f sz s ≤ 11) then (true, nxt f sz s, [opd f sz s])
      else if ¬ (tok f sz s = 45 ∨ tok f sz s = 40) ∨ 5 ≤ o then (false, s, [])
      else if tok f sz s = 40 then pbd (pgo f sz F 0 (nxt f sz s) (o + 1)) (fun s1 l1 => if tok f sz s1 = 41 then (true, nxt f sz s1, l1) else (false, s1, []))
      else pbd (pgo f sz F 5 (nxt f sz s) (o + 1)) (fun s1 l1 => (true, s1, l1 ++ [-9]))) := by
  rw [pgo, if_neg (by decide), if_neg (by decide), if_pos rfl]
theorem pgo_6 {F c s o : Nat} : pgo f sz (F + 1) (6 + c) s o = (if jnt c (tok f sz s) = true then pbd (pgo f sz F (lnk c) (nxt f sz s) o) (fun s1 l1 => pbd (pgo f sz F (6 + c) s1 o) (fun s2 l2 => (true, s2, l1 ++ cst (tok f sz s) :: l2))) else (true, s, [])) := by
  rw [pgo, if_neg (by omega), if_neg (by omega), if_neg (by omega), show 6 + c - 6 = c by omega]
theorem lnk_b (c : Nat) : lnk c ≤ 5 ∧ (c < 4 → hgt (lnk c) < hgt c) := by
  refine ⟨?_, fun h => ?_⟩
  · unfold lnk; split
    · omega
    · split
      · omega
      · split <;> omega
  · have : c = 0 ∨ c = 1 ∨ c = 2 ∨ c = 3 := by omega
    rcases this with rfl | rfl | rfl | rfl <;> decide
theorem hgt_b (c : Nat) : hgt c ≤ 5 := by
  unfold hgt; repeat' split
  all_goals omega
theorem jnt_n {c : Nat} : ¬ jnt c (-1) = true := by
  unfold jnt
  by_cases h0 : c = 0
  · rw [if_pos h0]; decide
  · rw [if_neg h0]
    by_cases h1 : c = 1
    · rw [if_pos h1]; decide
    · rw [if_neg h1]
      by_cases h2 : c = 2
      · rw [if_pos h2]; decide
      · rw [if_neg h2]; decide
theorem jnt_lt {c s : Nat} (hs : s ≤ sz) (h : jnt c (tok f sz s) = true) : s < sz := tok_lt hs (fun q => jnt_n (c := c) (by rw [← q]; exact h))
theorem one_lt {s : Nat} (hs : s ≤ sz) (h : tok f sz s = 12 ∨ (6 ≤ tok f sz s ∧ tok f sz s ≤ 11)) : s < sz := tok_lt hs (fun q => by
  rw [q] at h
  revert h
  decide)
/-- what is read takes bytes, adds no more than it takes -/
theorem pgo_ok : ∀ (F c s o s1 : Nat) (l : List Int32), s ≤ sz → pgo f sz F c s o = (true, s1, l) → s ≤ s1 ∧ s1 ≤ sz ∧ (c ≤ 5 → s < s1) ∧ l.length ≤ s1 - s
  | 0, c, s, o, s1, l, _, h => by
    rw [pgo] at h
    cases h
  | F + 1, c, s, o, s1, l, hs, h => by
    have hl := lnk_b (c - 6)
    have hl2 := lnk_b c
    by_cases hc : c < 4
    · rw [pgo_c hc] at h
      obtain ⟨sa, la, e1, h⟩ := pbd_ok h
      obtain ⟨sb, lc, e2, h⟩ := pbd_ok h
      have q1 := pgo_ok F _ _ _ _ _ hs e1
      have q2 := pgo_ok F _ _ _ _ _ q1.2.1 e2
      have q3 := q1.2.2.1 (by omega)
      cases h
      rw [List.length_append]
      omega
    · by_cases h4 : c = 4
      · subst h4
        rw [pgo_4] at h
        by_cases ht : tok f sz s = 5
        · rw [if_pos ht] at h
          have hlt := tok_v hs ht (by decide)
          have hn := nxt_b (f := f) hlt
          by_cases ho : 5 ≤ o
          · rw [if_pos ho] at h
            cases h
          · rw [if_neg ho] at h
            obtain ⟨sa, la, e1, h⟩ := pbd_ok h
            have q1 := pgo_ok F _ _ _ _ _ hn.2 e1
            cases h
            rw [List.length_append, List.length_singleton]
            omega
        · rw [if_neg ht] at h
          obtain ⟨sa, la, e1, h⟩ := pbd_ok h
          have q1 := pgo_ok F _ _ _ _ _ hs e1
          have q1' := q1.2.2.1 (by omega)
          by_cases hu : tok f sz sa = 60 ∨ tok f sz sa = 61
          · rw [if_pos hu] at h
            have hlt : sa < sz := by
              rcases hu with hu | hu
              · exact tok_v q1.2.1 hu (by decide)
              · exact tok_v q1.2.1 hu (by decide)
            have hn := nxt_b (f := f) hlt
            obtain ⟨sb, lc, e2, h⟩ := pbd_ok h
            have q2 := pgo_ok F _ _ _ _ _ hn.2 e2
            cases h
            rw [List.length_append, List.length_append, List.length_singleton]
            omega
          · rw [if_neg hu] at h
            cases h
            omega
      · by_cases h5 : c = 5
        · subst h5
          rw [pgo_5] at h
          by_cases ht : tok f sz s = 12 ∨ (6 ≤ tok f sz s ∧ tok f sz s ≤ 11)
          · rw [if_pos ht] at h
            have hn := nxt_b (f := f) (one_lt hs ht)
            cases h
            rw [List.length_singleton]
            omega
          · rw [if_neg ht] at h
            by_cases hno : ¬ (tok f sz s = 45 ∨ tok f sz s = 40) ∨ 5 ≤ o
            · rw [if_pos hno] at h
              cases h
            · rw [if_neg hno] at h
              have hlt : s < sz := tok_lt hs (fun q => hno (Or.inl (by rw [q]; decide)))
              have hn := nxt_b (f := f) hlt
              by_cases hp : tok f sz s = 40
              · rw [if_pos hp] at h
                obtain ⟨sa, la, e1, h⟩ := pbd_ok h
                have q1 := pgo_ok F _ _ _ _ _ hn.2 e1
                by_cases hu : tok f sz sa = 41
                · rw [if_pos hu] at h
                  have hlt2 := tok_v q1.2.1 hu (by decide)
                  have hn2 := nxt_b (f := f) hlt2
                  cases h
                  omega
                · rw [if_neg hu] at h
                  cases h
              · rw [if_neg hp] at h
                obtain ⟨sa, la, e1, h⟩ := pbd_ok h
                have q1 := pgo_ok F _ _ _ _ _ hn.2 e1
                cases h
                rw [List.length_append, List.length_singleton]
                omega
        · obtain ⟨e, rfl⟩ : ∃ e, c = 6 + e := ⟨c - 6, by omega⟩
          rw [pgo_6] at h
          by_cases ht : jnt e (tok f sz s) = true
          · rw [if_pos ht] at h
            have hn := nxt_b (f := f) (jnt_lt hs ht)
            obtain ⟨sa, la, e1, h⟩ := pbd_ok h
            obtain ⟨sb, lc, e2, h⟩ := pbd_ok h
            have q1 := pgo_ok F _ _ _ _ _ hn.2 e1
            have q2 := pgo_ok F _ _ _ _ _ q1.2.1 e2
            cases h
            rw [List.length_append, List.length_cons]
            omega
          · rw [if_neg ht] at h
            cases h
            exact ⟨Nat.le_refl _, hs, fun q => by omega, Nat.zero_le _⟩
/-- lists of steps: how high the stack stands -/
def skl : List Int32 → Nat → Option Nat
  | [], h => some h
  | s :: r, h => if s < 0 then (if s = -3 ∨ s = -9 then (if 1 ≤ h then skl r h else none) else (if 2 ≤ h then skl r (h - 1) else none))
    else (if s < 10006 then skl r (h + 1) else none)
theorem skl_app : ∀ (a b : List Int32) (h h1 : Nat), skl a h = some h1 → skl (a ++ b) h = skl b h1
  | [], b, h, h1, q => by
    cases q
    rfl
  | s :: r, b, h, h1, q => by
    rw [List.cons_append, skl]
    rw [skl] at q
    by_cases h0 : s < 0
    · rw [if_pos h0] at q ⊢
      by_cases hu : s = -3 ∨ s = -9
      · rw [if_pos hu] at q ⊢
        by_cases hh : 1 ≤ h
        · rw [if_pos hh] at q ⊢
          exact skl_app r b _ _ q
        · rw [if_neg hh] at q
          cases q
      · rw [if_neg hu] at q ⊢
        by_cases hh : 2 ≤ h
        · rw [if_pos hh] at q ⊢
          exact skl_app r b _ _ q
        · rw [if_neg hh] at q
          cases q
    · rw [if_neg h0] at q ⊢
      by_cases hh : s < 10006
      · rw [if_pos hh] at q ⊢
        exact skl_app r b _ _ q
      · rw [if_neg hh] at q
        cases q
theorem skl_sok {S : Nat → Int32} : ∀ (l : List Int32) (i h : Nat), (∀ k (hk : k < l.length), S (i + k) = l[k]) → sok S l.length i h = skl l h
  | [], i, h, _ => rfl
  | s :: r, i, h, q => by
    have e0 : S i = s := q 0 (Nat.succ_pos _)
    have q' : ∀ k (hk : k < r.length), S (i + 1 + k) = r[k] := fun k hk => (congrArg S (show i + 1 + k = i + (k + 1) by omega)).trans (q (k + 1) (Nat.succ_lt_succ hk))
    rw [List.length_cons, sok, skl, e0, skl_sok r (i + 1) h q', skl_sok r (i + 1) (h - 1) q', skl_sok r (i + 1) (h + 1) q']
theorem cst_e (t : Int32) : cst t = -1 ∨ cst t = -2 ∨ cst t = -6 ∨ cst t = -7 ∨ cst t = -4 ∨ cst t = -5 ∨ cst t = -8 := by
  unfold cst
  by_cases h1 : t = 3
  · rw [if_pos h1]; decide
  · rw [if_neg h1]
    by_cases h2 : t = 4
    · rw [if_pos h2]; decide
    · rw [if_neg h2]
      by_cases h3 : t = 43
      · rw [if_pos h3]; decide
      · rw [if_neg h3]
        by_cases h4 : t = 45
        · rw [if_pos h4]; decide
        · rw [if_neg h4]
          by_cases h5 : t = 60
          · rw [if_pos h5]; decide
          · rw [if_neg h5]
            by_cases h6 : t = 61
            · rw [if_pos h6]; decide
            · rw [if_neg h6]; decide
theorem cst_b (t : Int32) : cst t < 0 ∧ ¬ (cst t = -3 ∨ cst t = -9) ∧ -9 ≤ cst t := by
  rcases cst_e t with e | e | e | e | e | e | e
  all_goals rw [e]; decide
theorem skl_bin {t : Int32} {h : Nat} (hh : 2 ≤ h) (r : List Int32) : skl (cst t :: r) h = skl r (h - 1) := by
  rw [skl, if_pos (cst_b t).1, if_neg (cst_b t).2.1, if_pos hh]
/-- the number that four digits make -/
theorem num_b : ∀ (k i a m : Nat) (v : Int32), v = nI m → m < 10 ^ a → a + (spn pdg f k i - i) ≤ 8 → ∃ m', num f k i v = nI m' ∧ m' < 10 ^ (a + (spn pdg f k i - i))
  | 0, i, a, m, v, hv, hm, _ => ⟨m, by rw [num, hv], by rw [spn, Nat.sub_self]; exact hm⟩
  | k + 1, i, a, m, v, hv, hm, hb => by
    rw [num]
    rw [spn] at hb ⊢
    cases hp : pdg (f i) with
    | false =>
      refine ⟨m, hv, ?_⟩
      rw [cond_false, Nat.sub_self]
      exact hm
    | true =>
      rw [hp, cond_true] at hb
      rw [cond_true, cond_true]
      have hg := spn_ge pdg f k (i + 1)
      obtain ⟨h1, h2⟩ := of_decide_eq_true hp
      obtain ⟨c, hc, ec⟩ := nI_of2 (x := f i) (M := 57) (n := 57) rfl (fun q => absurd (Int32.lt_of_le_of_lt h1 q) (by decide)) h2
      have hc48 : 48 ≤ c := by
        rw [ec] at h1
        exact (nI_leI (a := 48) (b := c) (by decide) (by omega)).mp h1
      have ev : v * 10 + f i - 48 = nI (m * 10 + (c - 48)) := by
        rw [hv, ec, show nI m * 10 = nI (m * 10) from pk_mul m 10, nI_add, show nI (m * 10 + c) - 48 = nI (m * 10 + c - 48) from pk_sub (a := m * 10 + c) (b := 48) (by omega), show m * 10 + c - 48 = m * 10 + (c - 48) by omega]
      obtain ⟨m', e1, e2⟩ := num_b k (i + 1) (a + 1) (m * 10 + (c - 48)) _ ev (by rw [Nat.pow_succ]; omega) (by omega)
      refine ⟨m', e1, ?_⟩
      rw [show a + (spn pdg f k (i + 1) - i) = a + 1 + (spn pdg f k (i + 1) - (i + 1)) by omega]
      exact e2
end
