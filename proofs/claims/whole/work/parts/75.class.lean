/-! TEXTS: the class reads a chain, a link, a one (wip/whole/gen75.py) -/
def RS (f : Nat → Int32) (sz s t : Nat) (B : tR) : Prop := B 0 = f ∧ B 1 0 = nI sz ∧ B 1 1 = nI (ten f sz s) ∧ B 1 2 = nI s ∧ B 1 3 = tok f sz s ∧ (s < sz → pdg (f s) = true → B 1 4 = num f (sz - s) s 0) ∧ B 1 5 = nI t
def LA (R : tR) (z : Nat) (l : List Int32) (R' : tR) : Prop := R' 2 0 = nI (z + l.length) ∧ (∀ k, k < z → R' 0 k = R 0 k) ∧ ∀ k (h : k < l.length), R' 0 (z + k) = l[k]
theorem LA.nil {R : tR} {z : Nat} (h : R 2 0 = nI z) : LA R z [] R := ⟨h, fun _ _ => rfl, fun k hk => absurd hk (Nat.not_lt_zero _)⟩
theorem LA.app {R R1 R2 : tR} {z : Nat} {l m : List Int32} (h1 : LA R z l R1) (h2 : LA R1 (z + l.length) m R2) : LA R z (l ++ m) R2 := by
  refine ⟨?_, fun k hk => (h2.2.1 k (by omega)).trans (h1.2.1 k hk), fun k hk => ?_⟩
  · rw [List.length_append, ← Nat.add_assoc]
    exact h2.1
  · by_cases h : k < l.length
    · rw [List.getElem_append_left h]
      exact (h2.2.1 (z + k) (by omega)).trans (h1.2.2 k h)
    · have hk2 : k - l.length < m.length := by
        rw [List.length_append] at hk
        omega
      rw [List.getElem_append_right (Nat.not_lt.mp h)]
      have := h2.2.2 (k - l.length) hk2
      rw [show z + l.length + (k - l.length) = z + k by omega] at this
      exact this
theorem u3_oth {A : Nat → tR} {r i j c : Nat} {v : Int32} (h : ¬ c = r) : u3 A r i j v c = A c := va_oth _ _ h
theorem u3_o2 {T : Nat → tR} {t n i j : Nat} {v w : Int32} (h : ¬ (i = t ∧ (j = 0 ∨ j = 2))) : u3 (u3 T t 0 n v) t 2 0 w i j = T i j := by
  funext k
  rw [u3_ap, if_neg (by omega), u3_ap, if_neg (by omega)]
theorem LA_one {T : Nat → tR} {t n : Nat} {v : Int32} : LA (T t) n [v] (u3 (u3 T t 0 n v) t 2 0 (nI (n + 1)) t) := by
  refine ⟨?_, fun k hk => ?_, fun k hk => ?_⟩
  · exact (u3_ap _ _ _ _ _ _ _ _).trans (if_pos ⟨rfl, rfl, rfl⟩)
  · rw [u3_ap, if_neg (by omega), u3_ap, if_neg (by omega)]
  · obtain rfl : k = 0 := by
      rw [List.length_singleton] at hk
      omega
    show u3 (u3 T t 0 n v) t 2 0 (nI (n + 1)) t 0 (n + 0) = v
    rw [u3_ap, if_neg (by omega), u3_ap, if_pos ⟨rfl, rfl, rfl⟩]
theorem tri (r : Bool × Nat × List Int32) : ∃ b s l, r = (b, s, l) := ⟨r.1, r.2.1, r.2.2, rfl⟩
theorem app_cons (a b : List Int32) (c : Int32) : (a ++ [c]) ++ b = a ++ c :: b := List.append_assoc a [c] b
theorem bI_nzb {b : Bool} : narrow .boolean (.int (bI b)) = .int (bI b) := by cases b <;> rfl
theorem no_tf {p : Prop} (h : false = true) : p := absurd h (by decide)
def spc : Nat → Nat → Nat
  | 0, _ => 0
  | k + 1, i => (if Wch i = 32 then 1 else 0) + spc k (i + 1)
theorem wsp_r (q : Nat → Nat → Bool) : ∀ (k i : Nat) (t : Int32) (w a : Nat), wsp q k i t w a = t ∨ ∃ j, w ≤ j ∧ j < w + spc k i ∧ wsp q k i t w a = nI j
  | 0, i, t, w, a => Or.inl rfl
  | k + 1, i, t, w, a => by
    rw [wsp, spc]
    by_cases hw : Wch i = 32
    · rw [if_pos hw, if_pos hw]
      rcases wsp_r q k (i + 1) (cond (q a i) (nI w) t) (w + 1) (i + 1) with e | ⟨j, h1, h2, e⟩
      · rw [e]
        cases q a i with
        | true => exact Or.inr ⟨w, Nat.le_refl _, by omega, rfl⟩
        | false => exact Or.inl rfl
      · exact Or.inr ⟨j, by omega, by omega, e⟩
    · rw [if_neg hw, if_neg hw]
      rcases wsp_r q k (i + 1) t w a with e | ⟨j, h1, h2, e⟩
      · exact Or.inl e
      · exact Or.inr ⟨j, by omega, by omega, e⟩
theorem spc_12 : spc 61 0 = 12 := by decide +kernel
theorem tok_12 {f : Nat → Int32} {sz s : Nat} (h : tok f sz s = 12) : pdg (f s) = true ∧ spn pdg f (sz - s) s - s ≤ 4 := by
  unfold tok at h
  by_cases e : s = sz
  · rw [if_pos e] at h
    exact absurd h (by decide)
  · rw [if_neg e] at h
    cases hl : plt (f s) with
    | true =>
      rw [hl, cond_true] at h
      rcases wsp_r (isw f s (spn plt f (sz - s) s)) 61 0 (-2) 0 0 with e1 | ⟨j, _, h2, e1⟩
      · rw [e1] at h
        exact absurd h (by decide)
      · rw [e1] at h
        rw [spc_12] at h2
        have := (nI_eq (a := j) (b := 12) (by omega) (by decide)).mp h
        omega
    | false =>
      rw [hl, cond_false] at h
      cases hg : pdg (f s) with
      | true =>
        rw [hg, cond_true] at h
        by_cases h4 : 4 < spn pdg f (sz - s) s - s
        · rw [if_pos h4] at h
          exact absurd h (by decide)
        · exact ⟨rfl, Nat.not_lt.mp h4⟩
      | false =>
        rw [hg, cond_false] at h
        cases hx : sgn (f s) with
        | true =>
          rw [hx, cond_true] at h
          rw [h] at hx
          exact absurd hx (by decide +kernel)
        | false =>
          rw [hx, cond_false] at h
          exact absurd h (by decide)
def wdn (c : Nat) : Nat := if c = 0 ∨ c = 6 then 9 else if c = 1 ∨ c = 7 then 7 else if c = 2 ∨ c = 8 then 4 else if c = 3 ∨ c = 9 then 2 else if c = 4 then 5 else 0
theorem wdn_6 {c : Nat} (h : c < 4) : wdn (6 + c) = wdn c ∧ hgt (6 + c) = 0 ∧ wdn (lnk c) + 2 ≤ wdn c := by
  have : c = 0 ∨ c = 1 ∨ c = 2 ∨ c = 3 := by omega
  rcases this with rfl | rfl | rfl | rfl <;> decide
def PP (g : mG) (N : Nat) (A K : Nat → tR) (E : Nat → Int32) (l : Int64) (G : tR) (Qm : Nat → mC) (f : Nat → Int32) (sz t : Nat) (T : Nat → tR) (z : Nat) (r : Bool × Nat × List Int32) : Option Value → mM → Prop := fun v M => ∃ B' T', v = some (.int (bI r.1)) ∧ M = (N, H3 g (cc A T' K B' E l G) Qm) ∧ (∀ i j, ¬ (i = t ∧ (j = 0 ∨ j = 2)) → T' i j = T i j) ∧ B' 0 = f ∧ B' 1 0 = nI sz ∧ B' 1 2 = nI r.2.1 ∧ (r.1 = true → RS f sz r.2.1 t B' ∧ LA (T t) z r.2.2 (T' t))
def CP (g : mG) (N : Nat) (A K : Nat → tR) (E : Nat → Int32) (l : Int64) (G : tR) (Qm : Nat → mC) (f : Nat → Int32) (sz t F : Nat) : Prop := ∀ (d : Nat) (T : Nat → tR) (B : tR) (c s o z : Nat), 8 + 11 * (5 - o) + wdn c ≤ d → o ≤ 5 → s ≤ sz → z ≤ s → T t 2 0 = nI z → RS f sz s t B → (sz - s) * 6 + hgt c < F → (c < 4 → Wp d 40 0 (ment 40 [.ref 55, .int (nI c), .int (nI o)]) [] (N, H3 g (cc A T K B E l G) Qm) (PP g N A K E l G Qm f sz t T z (pgo f sz F c s o))) ∧ (c = 4 → Wp d 44 0 (ment 44 [.ref 55, .int (nI o)]) [] (N, H3 g (cc A T K B E l G) Qm) (PP g N A K E l G Qm f sz t T z (pgo f sz F 4 s o))) ∧ (c = 5 → Wp d 45 0 (ment 45 [.ref 55, .int (nI o)]) [] (N, H3 g (cc A T K B E l G) Qm) (PP g N A K E l G Qm f sz t T z (pgo f sz F 5 s o))) ∧ (∀ (c' i : Nat) (st0 : Value), c = 6 + c' → c' < 4 → i ≤ s → Wp d 40 13 [.ref 55, .int (nI c'), .int (nI o), .int (nI i), st0] [] (N, H3 g (cc A T K B E l G) Qm) (PP g N A K E l G Qm f sz t T z (pgo f sz F (6 + c') s o)))
section
variable {g : mG} {N : Nat} {A K : Nat → tR} {E : Nat → Int32} {l : Int64} {G : tR} {Qm : Nat → mC} {f : Nat → Int32} {sz t : Nat}
theorem PP.map {T T1 : Nat → tR} {z z1 : Nat} {r : Bool × Nat × List Int32} {v : Option Value} {M : mM} {kk : List Int32 → List Int32} (h : (PP g N A K E l G Qm f sz t T1 z1 r) v M) (hT : ∀ i j, ¬ (i = t ∧ (j = 0 ∨ j = 2)) → T1 i j = T i j) (hk : ∀ (m : List Int32) (R : tR), LA (T1 t) z1 m R → LA (T t) z (kk m) R) : (PP g N A K E l G Qm f sz t T z (pbd r (fun s2 m => (true, s2, kk m)))) v M := by
  obtain ⟨b, s2, l2, rfl⟩ := tri r
  obtain ⟨B', T', rfl, rfl, h1, h2, h3, h4, h5⟩ := h
  cases b with
  | false => exact ⟨B', T', rfl, rfl, fun i j hi => (h1 i j hi).trans (hT i j hi), h2, h3, h4, no_tf⟩
  | true => exact ⟨B', T', rfl, rfl, fun i j hi => (h1 i j hi).trans (hT i j hi), h2, h3, h4, fun _ => ⟨(h5 rfl).1, hk _ _ (h5 rfl).2⟩⟩
theorem x_47g {d : Nat} {T : Nat → tR} {B : tR} {i : Nat} (hz : sz ≤ 160) (hby : ∀ k, k < sz → 0 ≤ f k ∧ f k ≤ 255) (hd : 6 ≤ d) (hi : i ≤ sz) (h0 : B 0 = f) (h1 : B 1 0 = nI sz) (h2 : B 1 1 = nI i) (h6 : B 1 5 = nI t) : Wp d 47 0 (ment 47 [.ref 55]) [] (N, H3 g (cc A T K B E l G) Qm) (fun v M => v = none ∧ ∃ B', RS f sz (tst f sz i) t B' ∧ M = (N, H3 g (cc A T K B' E l G) Qm)) := by
  subst h0
  refine Wp.imp (x_47 (i := i) hd hz h1 h2 hi hby) ?_
  rintro v M ⟨rfl, B', r, e1, e2, e3, e4, rfl⟩
  exact ⟨rfl, B', ⟨r.1, (r.2 0 (by decide)).trans h1, e1, e2, e3, e4, (r.2 5 (by decide)).trans h6⟩, rfl⟩
theorem x_47n {d : Nat} {T : Nat → tR} {B : tR} {s : Nat} (hz : sz ≤ 160) (hby : ∀ k, k < sz → 0 ≤ f k ∧ f k ≤ 255) (hd : 6 ≤ d) (hs : s ≤ sz) (hB : RS f sz s t B) : Wp d 47 0 (ment 47 [.ref 55]) [] (N, H3 g (cc A T K B E l G) Qm) (fun v M => v = none ∧ ∃ B', RS f sz (nxt f sz s) t B' ∧ M = (N, H3 g (cc A T K B' E l G) Qm)) := by
  obtain ⟨h0, h1, h2, h3, h4, h5, h6⟩ := hB
  exact x_47g hz hby hd (ten_c hs).2 h0 h1 h2 h6
theorem x_42 {d : Nat} {T : Nat → tR} {B : tR} {c : Nat} (hc : c < 4) : Ex d 42 [.ref 55, .int (nI c)] (N, H3 g (cc A T K B E l G) Qm) (some (.int (bI (jnt c (B 1 3))))) (N, H3 g (cc A T K B E l G) Qm) := by
  have : c = 0 ∨ c = 1 ∨ c = 2 ∨ c = 3 := by omega
  rcases this with rfl | rfl | rfl | rfl
  · exact x_42_0
  · exact x_42_1
  · exact x_42_2
  · exact x_42_3
theorem cp_41 {F : Nat} (IH : CP g N A K E l G Qm f sz t F) {d : Nat} {T : Nat → tR} {B : tR} {c s o z : Nat} (hc : c < 4) (hd : 8 + 11 * (5 - o) + wdn (lnk c) + 1 ≤ d) (ho : o ≤ 5) (hs : s ≤ sz) (hzs : z ≤ s) (hT : T t 2 0 = nI z) (hB : RS f sz s t B) (hF : (sz - s) * 6 + hgt (lnk c) < F) : Wp d 41 0 (ment 41 [.ref 55, .int (nI c), .int (nI o)]) [] (N, H3 g (cc A T K B E l G) Qm) (PP g N A K E l G Qm f sz t T z (pgo f sz F (lnk c) s o)) := by
  have : c = 0 ∨ c = 1 ∨ c = 2 ∨ c = 3 := by omega
  rcases this with rfl | rfl | rfl | rfl
  · have hw : Wp (d - 1) 40 0 (ment 40 [.ref 55, .int 1, .int (nI o)]) [] (N, H3 g (cc A T K B E l G) Qm) (PP g N A K E l G Qm f sz t T z (pgo f sz F 1 s o)) := (IH (d - 1) T B 1 s o z (by have e : wdn (lnk 0) = wdn 1 := rfl; omega) ho hs hzs hT hB hF).1 (by decide)
    show Wp _ 41 0 [.ref 55, .int 0, .int (nI o)] [] _ (PP g N A K E l G Qm f sz t T z (pgo f sz F 1 s o))
    refine W_iload_n d_41_0 rfl ?_
    refine W_table (tgt := 28) d_41_1 (off := 27) (by decide) (by decide) ?_
    refine W_aload_n d_41_28 rfl (by decide) ?_
    refine W_iconst d_41_29 (v := 1) (by decide) ?_
    refine W_iload_n d_41_30 rfl ?_
    refine W_callVQ d_41_31 o_41 (Or.inl k_3_44) (by omega) hw rfl (mrecv_of rfl o_40.symm) rfl (Nat.le_of_ble_eq_true rfl) ?_
    rintro _ _ ⟨B1, T1, rfl, rfl, hT1, h0, h1, h2, h3⟩
    refine W_iret d_41_34 rt_41 bI_nzb ?_
    exact ⟨B1, T1, rfl, rfl, hT1, h0, h1, h2, h3⟩
  · have hw : Wp (d - 1) 44 0 (ment 44 [.ref 55, .int (nI o)]) [] (N, H3 g (cc A T K B E l G) Qm) (PP g N A K E l G Qm f sz t T z (pgo f sz F 4 s o)) := (IH (d - 1) T B 4 s o z (by have e : wdn (lnk 1) = wdn 4 := rfl; omega) ho hs hzs hT hB hF).2.1 rfl
    show Wp _ 41 0 [.ref 55, .int 1, .int (nI o)] [] _ (PP g N A K E l G Qm f sz t T z (pgo f sz F 4 s o))
    refine W_iload_n d_41_0 rfl ?_
    refine W_table (tgt := 35) d_41_1 (off := 34) (by decide) (by decide) ?_
    refine W_aload_n d_41_35 rfl (by decide) ?_
    refine W_iload_n d_41_36 rfl ?_
    refine W_callVQ d_41_37 o_41 (Or.inl k_3_65) (by omega) hw rfl (mrecv_of rfl o_44.symm) rfl (Nat.le_of_ble_eq_true rfl) ?_
    rintro _ _ ⟨B1, T1, rfl, rfl, hT1, h0, h1, h2, h3⟩
    refine W_iret d_41_40 rt_41 bI_nzb ?_
    exact ⟨B1, T1, rfl, rfl, hT1, h0, h1, h2, h3⟩
  · have hw : Wp (d - 1) 40 0 (ment 40 [.ref 55, .int 3, .int (nI o)]) [] (N, H3 g (cc A T K B E l G) Qm) (PP g N A K E l G Qm f sz t T z (pgo f sz F 3 s o)) := (IH (d - 1) T B 3 s o z (by have e : wdn (lnk 2) = wdn 3 := rfl; omega) ho hs hzs hT hB hF).1 (by decide)
    show Wp _ 41 0 [.ref 55, .int 2, .int (nI o)] [] _ (PP g N A K E l G Qm f sz t T z (pgo f sz F 3 s o))
    refine W_iload_n d_41_0 rfl ?_
    refine W_table (tgt := 41) d_41_1 (off := 40) (by decide) (by decide) ?_
    refine W_aload_n d_41_41 rfl (by decide) ?_
    refine W_iconst d_41_42 (v := 3) (by decide) ?_
    refine W_iload_n d_41_43 rfl ?_
    refine W_callVQ d_41_44 o_41 (Or.inl k_3_44) (by omega) hw rfl (mrecv_of rfl o_40.symm) rfl (Nat.le_of_ble_eq_true rfl) ?_
    rintro _ _ ⟨B1, T1, rfl, rfl, hT1, h0, h1, h2, h3⟩
    refine W_iret d_41_47 rt_41 bI_nzb ?_
    exact ⟨B1, T1, rfl, rfl, hT1, h0, h1, h2, h3⟩
  · have hw : Wp (d - 1) 45 0 (ment 45 [.ref 55, .int (nI o)]) [] (N, H3 g (cc A T K B E l G) Qm) (PP g N A K E l G Qm f sz t T z (pgo f sz F 5 s o)) := (IH (d - 1) T B 5 s o z (by have e : wdn (lnk 3) = wdn 5 := rfl; omega) ho hs hzs hT hB hF).2.2.1 rfl
    show Wp _ 41 0 [.ref 55, .int 3, .int (nI o)] [] _ (PP g N A K E l G Qm f sz t T z (pgo f sz F 5 s o))
    refine W_iload_n d_41_0 rfl ?_
    refine W_table (tgt := 48) d_41_1 (off := 47) (by decide) (by decide) ?_
    refine W_aload_n d_41_48 rfl (by decide) ?_
    refine W_iload_n d_41_49 rfl ?_
    refine W_callVQ d_41_50 o_41 (Or.inl k_3_68) (by omega) hw rfl (mrecv_of rfl o_45.symm) rfl (Nat.le_of_ble_eq_true rfl) ?_
    rintro _ _ ⟨B1, T1, rfl, rfl, hT1, h0, h1, h2, h3⟩
    refine W_iret d_41_53 rt_41 bI_nzb ?_
    exact ⟨B1, T1, rfl, rfl, hT1, h0, h1, h2, h3⟩
theorem cp_0 {F : Nat} (IH : CP g N A K E l G Qm f sz t F) (ht : t < 6) (hz : sz ≤ 160) (hby : ∀ k, k < sz → 0 ≤ f k ∧ f k ≤ 255) {d : Nat} {T : Nat → tR} {B : tR} {c s o z : Nat} (hc : c < 4) (hd : 8 + 11 * (5 - o) + wdn c ≤ d) (ho : o ≤ 5) (hs : s ≤ sz) (hzs : z ≤ s) (hT : T t 2 0 = nI z) (hB : RS f sz s t B) (hF : (sz - s) * 6 + hgt c < F + 1) : Wp d 40 0 (ment 40 [.ref 55, .int (nI c), .int (nI o)]) [] (N, H3 g (cc A T K B E l G) Qm) (PP g N A K E l G Qm f sz t T z (pgo f sz (F + 1) c s o)) := by
  have hb := wdn_6 hc
  have hl5 := lnk_b c
  have hg := hl5.2 hc
  have hl := cp_41 IH (d := d - 1) hc (by omega) ho hs hzs hT hB (by omega)
  obtain ⟨b, s1, l1, hr⟩ := tri (pgo f sz F (lnk c) s o)
  rw [hr] at hl
  rw [pgo_c hc, hr]
  show Wp _ 40 0 [.ref 55, .int (nI c), .int (nI o), .null, .null] [] _ _
  cases b with
  | false =>
    rw [pbd_f]
    refine W_aload_n d_40_0 rfl (by decide) ?_
    refine W_iload_n d_40_1 rfl ?_
    refine W_iload_n d_40_2 rfl ?_
    refine W_callVQ d_40_3 o_40 (Or.inl k_3_52) (by omega) hl rfl (mrecv_of rfl o_41.symm) rfl (Nat.le_of_ble_eq_true rfl) ?_
    rintro _ _ ⟨B1, T1, rfl, rfl, hT1, h0, h1, h2, h3⟩
    show Wp _ _ _ _ (.int 0 :: _) _ _
    refine W_if_ne (tgt := 11) d_40_6 (by decide) (fun h6 => absurd h6 (by decide)) (fun _ => ?_)
    refine W_iconst d_40_9 (v := 0) (by decide) ?_
    refine W_iret d_40_10 rt_40 rfl ?_
    exact ⟨B1, T1, rfl, rfl, hT1, h0, h1, h2, no_tf⟩
  | true =>
    have q := pgo_ok F _ _ _ _ _ hs hr
    have q3 := q.2.2.1 hl5.1
    rw [pbd_t]
    refine W_aload_n d_40_0 rfl (by decide) ?_
    refine W_iload_n d_40_1 rfl ?_
    refine W_iload_n d_40_2 rfl ?_
    refine W_callVQ d_40_3 o_40 (Or.inl k_3_52) (by omega) hl rfl (mrecv_of rfl o_41.symm) rfl (Nat.le_of_ble_eq_true rfl) ?_
    rintro _ _ ⟨B1, T1, rfl, rfl, hT1, h0, h1, h2, h3⟩
    show Wp _ _ _ _ (.int 1 :: _) _ _
    have h4 : RS f sz s1 t B1 ∧ LA (T t) z l1 (T1 t) := h3 rfl
    refine W_if_ne (tgt := 11) d_40_6 (by decide) (fun _ => ?_) (fun h6 => absurd h6 (by decide))
    refine W_iconst d_40_11 (v := 0) (by decide) ?_
    refine W_istore_n d_40_12 rfl ?_
    exact Wp.imp ((IH d T1 B1 (6 + c) s1 o (z + l1.length) (by omega) ho q.2.1 (by omega) h4.2.1 h4.1 (by omega)).2.2.2 c 0 _ rfl hc (Nat.zero_le _)) (fun v M h => PP.map h hT1 (fun m R hm => h4.2.app hm))
theorem cp_6 {F : Nat} (IH : CP g N A K E l G Qm f sz t F) (ht : t < 6) (hz : sz ≤ 160) (hby : ∀ k, k < sz → 0 ≤ f k ∧ f k ≤ 255) {d : Nat} {T : Nat → tR} {B : tR} {c s o z i : Nat} {st0 : Value} (hc : c < 4) (hd : 8 + 11 * (5 - o) + wdn c ≤ d) (ho : o ≤ 5) (hs : s ≤ sz) (hzs : z ≤ s) (hT : T t 2 0 = nI z) (hB : RS f sz s t B) (hF : (sz - s) * 6 < F + 1) (hi : i ≤ s) : Wp d 40 13 [.ref 55, .int (nI c), .int (nI o), .int (nI i), st0] [] (N, H3 g (cc A T K B E l G) Qm) (PP g N A K E l G Qm f sz t T z (pgo f sz (F + 1) (6 + c) s o)) := by
  have hb := wdn_6 hc
  have hl5 := lnk_b c
  have hg := hl5.2 hc
  have hg5 := hgt_b c
  have hB' := hB
  obtain ⟨b0, b1, b2, b3, b4, b5, b6⟩ := hB'
  rw [pgo_6]
  by_cases hj : jnt c (tok f sz s) = true
  · rw [if_pos hj]
    have hlt := jnt_lt hs hj
    have hn := nxt_b (f := f) hlt
    obtain ⟨b, s1, l1, hr⟩ := tri (pgo f sz F (lnk c) (nxt f sz s) o)
    have hl : ∀ B2, RS f sz (nxt f sz s) t B2 → Wp (d - 1) 41 0 (ment 41 [.ref 55, .int (nI c), .int (nI o)]) [] (N, H3 g (cc A T K B2 E l G) Qm) (PP g N A K E l G Qm f sz t T z (b, s1, l1)) := fun B2 hB2 => by
      rw [← hr]
      exact cp_41 IH hc (by omega) ho hn.2 (by omega) hT hB2 (by omega)
    rw [hr]
    cases b with
    | false =>
        rw [pbd_f]
        refine W_iload_n d_40_13 rfl ?_
        refine W_aload_n d_40_14 rfl (by decide) ?_
        refine W_getf d_40_15 o_40 k_3_15 rfl rfl ?_
        rw [b1]
        refine W_icmp_ge (tgt := 65) d_40_18 (by decide) (fun h18 => absurd h18 (nI_ge (a := i) (b := sz) (by omega) (by omega))) (fun h18 => ?_)
        refine W_aload_n d_40_21 rfl (by decide) ?_
        refine W_iload_n d_40_22 rfl ?_
        refine W_callV d_40_23 o_40 (Or.inl k_3_55) (by omega) (x_42 hc) rfl (mrecv_of rfl o_42.symm) rfl (Nat.le_of_ble_eq_true rfl) ?_
        rw [b4, hj]
        show Wp _ _ _ _ (.int 1 :: _) _ _
        refine W_if_eq (tgt := 65) d_40_26 (by decide) (fun h26 => absurd h26 (by decide)) (fun _ => ?_)
        refine W_aload_n d_40_29 rfl (by decide) ?_
        refine W_callV d_40_30 o_40 (Or.inl k_3_58) (by omega) (x_43) rfl (mrecv_of rfl o_43.symm) rfl (Nat.le_of_ble_eq_true rfl) ?_
        rw [b4]
        refine W_istore d_40_33 rfl ?_
        refine W_aload_n d_40_35 rfl (by decide) ?_
        refine W_callVQ d_40_36 o_40 (Or.inl k_3_31) (by omega) (x_47n hz hby (by omega) hs hB) rfl (mrecv_of rfl o_47.symm) rfl (Nat.le_of_ble_eq_true rfl) ?_
        rintro _ _ ⟨rfl, B2, hB2, rfl⟩
        refine W_aload_n d_40_39 rfl (by decide) ?_
        refine W_iload_n d_40_40 rfl ?_
        refine W_iload_n d_40_41 rfl ?_
        refine W_callVQ d_40_42 o_40 (Or.inl k_3_52) (by omega) (hl B2 hB2) rfl (mrecv_of rfl o_41.symm) rfl (Nat.le_of_ble_eq_true rfl) ?_
        rintro _ _ ⟨B1, T1, rfl, rfl, hT1, h0, h1, h2, h3⟩
        show Wp _ _ _ _ (.int 0 :: _) _ _
        refine W_if_ne (tgt := 50) d_40_45 (by decide) (fun h45 => absurd h45 (by decide)) (fun _ => ?_)
        refine W_iconst d_40_48 (v := 0) (by decide) ?_
        refine W_iret d_40_49 rt_40 rfl ?_
        exact ⟨B1, T1, rfl, rfl, hT1, h0, h1, h2, no_tf⟩
      | true =>
        have q := pgo_ok F _ _ _ _ _ hn.2 hr
        have q3 := q.2.2.1 hl5.1
        rw [pbd_t]
        refine W_iload_n d_40_13 rfl ?_
        refine W_aload_n d_40_14 rfl (by decide) ?_
        refine W_getf d_40_15 o_40 k_3_15 rfl rfl ?_
        rw [b1]
        refine W_icmp_ge (tgt := 65) d_40_18 (by decide) (fun h18 => absurd h18 (nI_ge (a := i) (b := sz) (by omega) (by omega))) (fun h18 => ?_)
        refine W_aload_n d_40_21 rfl (by decide) ?_
        refine W_iload_n d_40_22 rfl ?_
        refine W_callV d_40_23 o_40 (Or.inl k_3_55) (by omega) (x_42 hc) rfl (mrecv_of rfl o_42.symm) rfl (Nat.le_of_ble_eq_true rfl) ?_
        rw [b4, hj]
        show Wp _ _ _ _ (.int 1 :: _) _ _
        refine W_if_eq (tgt := 65) d_40_26 (by decide) (fun h26 => absurd h26 (by decide)) (fun _ => ?_)
        refine W_aload_n d_40_29 rfl (by decide) ?_
        refine W_callV d_40_30 o_40 (Or.inl k_3_58) (by omega) (x_43) rfl (mrecv_of rfl o_43.symm) rfl (Nat.le_of_ble_eq_true rfl) ?_
        rw [b4]
        refine W_istore d_40_33 rfl ?_
        refine W_aload_n d_40_35 rfl (by decide) ?_
        refine W_callVQ d_40_36 o_40 (Or.inl k_3_31) (by omega) (x_47n hz hby (by omega) hs hB) rfl (mrecv_of rfl o_47.symm) rfl (Nat.le_of_ble_eq_true rfl) ?_
        rintro _ _ ⟨rfl, B2, hB2, rfl⟩
        refine W_aload_n d_40_39 rfl (by decide) ?_
        refine W_iload_n d_40_40 rfl ?_
        refine W_iload_n d_40_41 rfl ?_
        refine W_callVQ d_40_42 o_40 (Or.inl k_3_52) (by omega) (hl B2 hB2) rfl (mrecv_of rfl o_41.symm) rfl (Nat.le_of_ble_eq_true rfl) ?_
        rintro _ _ ⟨B1, T1, rfl, rfl, hT1, h0, h1, h2, h3⟩
        show Wp _ _ _ _ (.int 1 :: _) _ _
        have h4 : RS f sz s1 t B1 ∧ LA (T t) z l1 (T1 t) := h3 rfl
        refine W_if_ne (tgt := 50) d_40_45 (by decide) (fun _ => ?_) (fun h45 => absurd h45 (by decide))
        refine W_aload_n d_40_50 rfl (by decide) ?_
        refine W_getf d_40_51 o_40 k_3_19 rfl rfl ?_
        show Wp _ _ _ _ (lref (B1 1 5) :: _) _ _
        rw [h4.1.2.2.2.2.2.2, lref_nI ht]
        refine W_iload d_40_54 rfl ?_
        refine W_callV d_40_56 o_40 (Or.inl k_3_62) (by omega) (x_17 ht (n := z + l1.length) h4.2.1 (by omega)) rfl (mrecv_of (h_law (by assumption)) o_17.symm) rfl (Nat.le_of_ble_eq_true rfl) ?_
        refine W_iinc (v := 1) d_40_59 rfl (by decide) rfl ?_
        rw [show ((nI i + 1 : Int32)) = nI (i + 1) from nI_add i 1]
        refine W_goto (tgt := 13) d_40_62 (by decide) ?_
        have hA := h4.2.app (LA_one (v := cst (tok f sz s)))
        have hlen : (l1 ++ [cst (tok f sz s)]).length = l1.length + 1 := by rw [List.length_append, List.length_singleton]
        refine Wp.imp ((IH d _ B1 (6 + c) s1 o (z + (l1 ++ [cst (tok f sz s)]).length) (by omega) ho q.2.1 (by omega) hA.1 h4.1 (by omega)).2.2.2 c (i + 1) _ rfl hc (by omega)) (fun v M h => PP.map h (fun i j hi => (u3_o2 hi).trans (hT1 i j hi)) (fun m R hm => ?_))
        show LA _ _ (l1 ++ cst (tok f sz s) :: m) _
        rw [← app_cons]
        exact hA.app hm
  · rw [if_neg hj]
    have hj2 : jnt c (tok f sz s) = false := by
      cases h : jnt c (tok f sz s) with
      | true => exact absurd h hj
      | false => rfl
    by_cases hi2 : i < sz
    · refine W_iload_n d_40_13 rfl ?_
      refine W_aload_n d_40_14 rfl (by decide) ?_
      refine W_getf d_40_15 o_40 k_3_15 rfl rfl ?_
      rw [b1]
      refine W_icmp_ge (tgt := 65) d_40_18 (by decide) (fun h18 => absurd h18 (nI_ge (a := i) (b := sz) (by omega) (by omega))) (fun h18 => ?_)
      refine W_aload_n d_40_21 rfl (by decide) ?_
      refine W_iload_n d_40_22 rfl ?_
      refine W_callV d_40_23 o_40 (Or.inl k_3_55) (by omega) (x_42 hc) rfl (mrecv_of rfl o_42.symm) rfl (Nat.le_of_ble_eq_true rfl) ?_
      rw [b4, hj2]
      show Wp _ _ _ _ (.int 0 :: _) _ _
      refine W_if_eq (tgt := 65) d_40_26 (by decide) (fun _ => ?_) (fun h26 => absurd h26 (by decide))
      refine W_iconst d_40_65 (v := 1) (by decide) ?_
      refine W_iret d_40_66 rt_40 rfl ?_
      exact ⟨B, T, rfl, rfl, fun _ _ _ => rfl, b0, b1, b3, fun _ => ⟨hB, LA.nil hT⟩⟩
    · refine W_iload_n d_40_13 rfl ?_
      refine W_aload_n d_40_14 rfl (by decide) ?_
      refine W_getf d_40_15 o_40 k_3_15 rfl rfl ?_
      rw [b1]
      refine W_icmp_ge (tgt := 65) d_40_18 (by decide) (fun h18 => ?_) (fun h18 => absurd (nI_le (a := sz) (b := i) (by omega) (by omega)) h18)
      refine W_iconst d_40_65 (v := 1) (by decide) ?_
      refine W_iret d_40_66 rt_40 rfl ?_
      exact ⟨B, T, rfl, rfl, fun _ _ _ => rfl, b0, b1, b3, fun _ => ⟨hB, LA.nil hT⟩⟩
theorem cp_4 {F : Nat} (IH : CP g N A K E l G Qm f sz t F) (ht : t < 6) (hz : sz ≤ 160) (hby : ∀ k, k < sz → 0 ≤ f k ∧ f k ≤ 255) {d : Nat} {T : Nat → tR} {B : tR} {s o z : Nat} (hd : 8 + 11 * (5 - o) + 5 ≤ d) (ho : o ≤ 5) (hs : s ≤ sz) (hzs : z ≤ s) (hT : T t 2 0 = nI z) (hB : RS f sz s t B) (hF : (sz - s) * 6 + 3 < F + 1) : Wp d 44 0 (ment 44 [.ref 55, .int (nI o)]) [] (N, H3 g (cc A T K B E l G) Qm) (PP g N A K E l G Qm f sz t T z (pgo f sz (F + 1) 4 s o)) := by
  have w4 : wdn 4 = 5 := by decide
  have w2 : wdn 2 = 4 := by decide
  have g4 : hgt 4 = 3 := by decide
  have g2 : hgt 2 = 2 := by decide
  have hB' := hB
  obtain ⟨b0, b1, b2, b3, b4, b5, b6⟩ := hB'
  rw [pgo_4]
  show Wp _ 44 0 [.ref 55, .int (nI o), .null] [] _ _
  by_cases hk5 : tok f sz s = 5
  · rw [if_pos hk5]
    have hlt := tok_v hs hk5 (by decide)
    have hn := nxt_b (f := f) hlt
    by_cases ho5 : 5 ≤ o
    · rw [if_pos ho5]
      refine W_aload_n d_44_0 rfl (by decide) ?_
      refine W_getf d_44_1 o_44 k_3_41 rfl rfl ?_
      rw [b4]
      refine W_iconst d_44_4 (v := 5) (by decide) ?_
      refine W_icmp_ne (tgt := 42) d_44_5 (by decide) (fun h5 => absurd hk5 h5) (fun h5 => ?_)
      refine W_iload_n d_44_8 rfl ?_
      refine W_iconst d_44_9 (v := 5) (by decide) ?_
      refine W_icmp_lt (tgt := 15) d_44_10 (by decide) (fun h10 => absurd h10 (nI_nlt (a := o) (b := 5) (by omega) (by omega))) (fun h10 => ?_)
      refine W_iconst d_44_13 (v := 0) (by decide) ?_
      refine W_iret d_44_14 rt_44 rfl ?_
      exact ⟨B, T, rfl, rfl, fun _ _ _ => rfl, b0, b1, b3, no_tf⟩
    · rw [if_neg ho5]
      obtain ⟨b, s1, l1, hr⟩ := tri (pgo f sz F 4 (nxt f sz s) (o + 1))
      have hl : ∀ B2, RS f sz (nxt f sz s) t B2 → Wp (d - 1) 44 0 (ment 44 [.ref 55, .int (nI (o + 1))]) [] (N, H3 g (cc A T K B2 E l G) Qm) (PP g N A K E l G Qm f sz t T z (b, s1, l1)) := fun B2 hB2 => by
        rw [← hr]
        exact (IH (d - 1) T B2 4 (nxt f sz s) (o + 1) z (by omega) (by omega) hn.2 (by omega) hT hB2 (by omega)).2.1 rfl
      rw [hr]
      cases b with
      | false =>
        rw [pbd_f]
        refine W_aload_n d_44_0 rfl (by decide) ?_
        refine W_getf d_44_1 o_44 k_3_41 rfl rfl ?_
        rw [b4]
        refine W_iconst d_44_4 (v := 5) (by decide) ?_
        refine W_icmp_ne (tgt := 42) d_44_5 (by decide) (fun h5 => absurd hk5 h5) (fun h5 => ?_)
        refine W_iload_n d_44_8 rfl ?_
        refine W_iconst d_44_9 (v := 5) (by decide) ?_
        refine W_icmp_lt (tgt := 15) d_44_10 (by decide) (fun h10 => ?_) (fun h10 => absurd (nI_lt (a := o) (b := 5) (by omega) (by omega)) h10)
        refine W_aload_n d_44_15 rfl (by decide) ?_
        refine W_callVQ d_44_16 o_44 (Or.inl k_3_31) (by omega) (x_47n hz hby (by omega) hs hB) rfl (mrecv_of rfl o_47.symm) rfl (Nat.le_of_ble_eq_true rfl) ?_
        rintro _ _ ⟨rfl, B2, hB2, rfl⟩
        refine W_aload_n d_44_19 rfl (by decide) ?_
        refine W_iload_n d_44_20 rfl ?_
        refine W_iconst d_44_21 (v := 1) (by decide) ?_
        refine W_iadd d_44_22 ?_
        rw [show ((nI o + 1 : Int32)) = nI (o + 1) from nI_add o 1]
        refine W_callVQ d_44_23 o_44 (Or.inl k_3_65) (by omega) (hl B2 hB2) rfl (mrecv_of rfl o_44.symm) rfl (Nat.le_of_ble_eq_true rfl) ?_
        rintro _ _ ⟨B1, T1, rfl, rfl, hT1, h0, h1, h2, h3⟩
        show Wp _ _ _ _ (.int 0 :: _) _ _
        refine W_if_ne (tgt := 31) d_44_26 (by decide) (fun h26 => absurd h26 (by decide)) (fun _ => ?_)
        refine W_iconst d_44_29 (v := 0) (by decide) ?_
        refine W_iret d_44_30 rt_44 rfl ?_
        exact ⟨B1, T1, rfl, rfl, hT1, h0, h1, h2, no_tf⟩
      | true =>
        have q := pgo_ok F _ _ _ _ _ hn.2 hr
        have q3 := q.2.2.1 (by decide)
        rw [pbd_t]
        refine W_aload_n d_44_0 rfl (by decide) ?_
        refine W_getf d_44_1 o_44 k_3_41 rfl rfl ?_
        rw [b4]
        refine W_iconst d_44_4 (v := 5) (by decide) ?_
        refine W_icmp_ne (tgt := 42) d_44_5 (by decide) (fun h5 => absurd hk5 h5) (fun h5 => ?_)
        refine W_iload_n d_44_8 rfl ?_
        refine W_iconst d_44_9 (v := 5) (by decide) ?_
        refine W_icmp_lt (tgt := 15) d_44_10 (by decide) (fun h10 => ?_) (fun h10 => absurd (nI_lt (a := o) (b := 5) (by omega) (by omega)) h10)
        refine W_aload_n d_44_15 rfl (by decide) ?_
        refine W_callVQ d_44_16 o_44 (Or.inl k_3_31) (by omega) (x_47n hz hby (by omega) hs hB) rfl (mrecv_of rfl o_47.symm) rfl (Nat.le_of_ble_eq_true rfl) ?_
        rintro _ _ ⟨rfl, B2, hB2, rfl⟩
        refine W_aload_n d_44_19 rfl (by decide) ?_
        refine W_iload_n d_44_20 rfl ?_
        refine W_iconst d_44_21 (v := 1) (by decide) ?_
        refine W_iadd d_44_22 ?_
        rw [show ((nI o + 1 : Int32)) = nI (o + 1) from nI_add o 1]
        refine W_callVQ d_44_23 o_44 (Or.inl k_3_65) (by omega) (hl B2 hB2) rfl (mrecv_of rfl o_44.symm) rfl (Nat.le_of_ble_eq_true rfl) ?_
        rintro _ _ ⟨B1, T1, rfl, rfl, hT1, h0, h1, h2, h3⟩
        show Wp _ _ _ _ (.int 1 :: _) _ _
        have h4 : RS f sz s1 t B1 ∧ LA (T t) z l1 (T1 t) := h3 rfl
        refine W_if_ne (tgt := 31) d_44_26 (by decide) (fun _ => ?_) (fun h26 => absurd h26 (by decide))
        refine W_aload_n d_44_31 rfl (by decide) ?_
        refine W_getf d_44_32 o_44 k_3_19 rfl rfl ?_
        show Wp _ _ _ _ (lref (B1 1 5) :: _) _ _
        rw [h4.1.2.2.2.2.2.2, lref_nI ht]
        refine W_bipush d_44_35 (v := (-3)) (by decide) ?_
        refine W_callV d_44_37 o_44 (Or.inl k_3_62) (by omega) (x_17 ht (n := z + l1.length) h4.2.1 (by omega)) rfl (mrecv_of (h_law (by assumption)) o_17.symm) rfl (Nat.le_of_ble_eq_true rfl) ?_
        refine W_iconst d_44_40 (v := 1) (by decide) ?_
        refine W_iret d_44_41 rt_44 rfl ?_
        exact ⟨B1, _, rfl, rfl, fun i j hi => (u3_o2 hi).trans (hT1 i j hi), h0, h1, h2, fun _ => ⟨h4.1, h4.2.app LA_one⟩⟩
  · rw [if_neg hk5]
    obtain ⟨b, s1, l1, hr⟩ := tri (pgo f sz F 2 s o)
    have hl : Wp (d - 1) 40 0 (ment 40 [.ref 55, .int 2, .int (nI o)]) [] (N, H3 g (cc A T K B E l G) Qm) (PP g N A K E l G Qm f sz t T z (b, s1, l1)) := by
      rw [← hr]
      exact (IH (d - 1) T B 2 s o z (by omega) ho hs hzs hT hB (by omega)).1 (by decide)
    rw [hr]
    cases b with
    | false =>
      rw [pbd_f]
      refine W_aload_n d_44_0 rfl (by decide) ?_
      refine W_getf d_44_1 o_44 k_3_41 rfl rfl ?_
      rw [b4]
      refine W_iconst d_44_4 (v := 5) (by decide) ?_
      refine W_icmp_ne (tgt := 42) d_44_5 (by decide) (fun h5 => ?_) (fun h5 => absurd h5 hk5)
      refine W_aload_n d_44_42 rfl (by decide) ?_
      refine W_iconst d_44_43 (v := 2) (by decide) ?_
      refine W_iload_n d_44_44 rfl ?_
      refine W_callVQ d_44_45 o_44 (Or.inl k_3_44) (by omega) hl rfl (mrecv_of rfl o_40.symm) rfl (Nat.le_of_ble_eq_true rfl) ?_
      rintro _ _ ⟨B1, T1, rfl, rfl, hT1, h0, h1, h2, h3⟩
      show Wp _ _ _ _ (.int 0 :: _) _ _
      refine W_if_ne (tgt := 53) d_44_48 (by decide) (fun h48 => absurd h48 (by decide)) (fun _ => ?_)
      refine W_iconst d_44_51 (v := 0) (by decide) ?_
      refine W_iret d_44_52 rt_44 rfl ?_
      exact ⟨B1, T1, rfl, rfl, hT1, h0, h1, h2, no_tf⟩
    | true =>
      have q := pgo_ok F _ _ _ _ _ hs hr
      have q3 := q.2.2.1 (by decide)
      rw [pbd_t]
      by_cases hu : tok f sz s1 = 60 ∨ tok f sz s1 = 61
      · rw [if_pos hu]
        have hlt : s1 < sz := by
          rcases hu with hu | hu
          · exact tok_v q.2.1 hu (by decide)
          · exact tok_v q.2.1 hu (by decide)
        have hn := nxt_b (f := f) hlt
        obtain ⟨c2, s2, l2, hr2⟩ := tri (pgo f sz F 2 (nxt f sz s1) o)
        have hl2 : ∀ T1 B2, T1 t 2 0 = nI (z + l1.length) → RS f sz (nxt f sz s1) t B2 → Wp (d - 1) 40 0 (ment 40 [.ref 55, .int 2, .int (nI o)]) [] (N, H3 g (cc A T1 K B2 E l G) Qm) (PP g N A K E l G Qm f sz t T1 (z + l1.length) (c2, s2, l2)) := fun T1 B2 hT1 hB2 => by
          rw [← hr2]
          exact (IH (d - 1) T1 B2 2 (nxt f sz s1) o (z + l1.length) (by omega) ho hn.2 (by omega) hT1 hB2 (by omega)).1 (by decide)
        rw [hr2]
        by_cases hv : tok f sz s1 = 60
        · have hu := hv
          cases c2 with
          | false =>
            rw [pbd_f]
            refine W_aload_n d_44_0 rfl (by decide) ?_
            refine W_getf d_44_1 o_44 k_3_41 rfl rfl ?_
            rw [b4]
            refine W_iconst d_44_4 (v := 5) (by decide) ?_
            refine W_icmp_ne (tgt := 42) d_44_5 (by decide) (fun h5 => ?_) (fun h5 => absurd h5 hk5)
            refine W_aload_n d_44_42 rfl (by decide) ?_
            refine W_iconst d_44_43 (v := 2) (by decide) ?_
            refine W_iload_n d_44_44 rfl ?_
            refine W_callVQ d_44_45 o_44 (Or.inl k_3_44) (by omega) hl rfl (mrecv_of rfl o_40.symm) rfl (Nat.le_of_ble_eq_true rfl) ?_
            rintro _ _ ⟨B1, T1, rfl, rfl, hT1, h0, h1, h2, h3⟩
            show Wp _ _ _ _ (.int 1 :: _) _ _
            have h4 : RS f sz s1 t B1 ∧ LA (T t) z l1 (T1 t) := h3 rfl
            refine W_if_ne (tgt := 53) d_44_48 (by decide) (fun _ => ?_) (fun h48 => absurd h48 (by decide))
            refine W_aload_n d_44_53 rfl (by decide) ?_
            refine W_getf d_44_54 o_44 k_3_41 rfl rfl ?_
            rw [h4.1.2.2.2.2.1]
            refine W_bipush d_44_57 (v := 60) (by decide) ?_
            refine W_icmp_eq (tgt := 73) d_44_59 (by decide) (fun h59 => ?_) (fun h59 => absurd hu h59)
            refine W_aload_n d_44_73 rfl (by decide) ?_
            refine W_callV d_44_74 o_44 (Or.inl k_3_58) (by omega) (x_43) rfl (mrecv_of rfl o_43.symm) rfl (Nat.le_of_ble_eq_true rfl) ?_
            rw [h4.1.2.2.2.2.1]
            refine W_istore_n d_44_77 rfl ?_
            refine W_aload_n d_44_78 rfl (by decide) ?_
            refine W_callVQ d_44_79 o_44 (Or.inl k_3_31) (by omega) (x_47n hz hby (by omega) q.2.1 h4.1) rfl (mrecv_of rfl o_47.symm) rfl (Nat.le_of_ble_eq_true rfl) ?_
            rintro _ _ ⟨rfl, B2, hB2, rfl⟩
            refine W_aload_n d_44_82 rfl (by decide) ?_
            refine W_iconst d_44_83 (v := 2) (by decide) ?_
            refine W_iload_n d_44_84 rfl ?_
            refine W_callVQ d_44_85 o_44 (Or.inl k_3_44) (by omega) (hl2 T1 B2 h4.2.1 hB2) rfl (mrecv_of rfl o_40.symm) rfl (Nat.le_of_ble_eq_true rfl) ?_
            rintro _ _ ⟨B3, T3, rfl, rfl, hT3, k0, k1, k2, k3⟩
            show Wp _ _ _ _ (.int 0 :: _) _ _
            refine W_if_ne (tgt := 93) d_44_88 (by decide) (fun h88 => absurd h88 (by decide)) (fun _ => ?_)
            refine W_iconst d_44_91 (v := 0) (by decide) ?_
            refine W_iret d_44_92 rt_44 rfl ?_
            exact ⟨B3, T3, rfl, rfl, fun i j hi => (hT3 i j hi).trans (hT1 i j hi), k0, k1, k2, no_tf⟩
          | true =>
            have q2 := pgo_ok F _ _ _ _ _ hn.2 hr2
            rw [pbd_t]
            refine W_aload_n d_44_0 rfl (by decide) ?_
            refine W_getf d_44_1 o_44 k_3_41 rfl rfl ?_
            rw [b4]
            refine W_iconst d_44_4 (v := 5) (by decide) ?_
            refine W_icmp_ne (tgt := 42) d_44_5 (by decide) (fun h5 => ?_) (fun h5 => absurd h5 hk5)
            refine W_aload_n d_44_42 rfl (by decide) ?_
            refine W_iconst d_44_43 (v := 2) (by decide) ?_
            refine W_iload_n d_44_44 rfl ?_
            refine W_callVQ d_44_45 o_44 (Or.inl k_3_44) (by omega) hl rfl (mrecv_of rfl o_40.symm) rfl (Nat.le_of_ble_eq_true rfl) ?_
            rintro _ _ ⟨B1, T1, rfl, rfl, hT1, h0, h1, h2, h3⟩
            show Wp _ _ _ _ (.int 1 :: _) _ _
            have h4 : RS f sz s1 t B1 ∧ LA (T t) z l1 (T1 t) := h3 rfl
            refine W_if_ne (tgt := 53) d_44_48 (by decide) (fun _ => ?_) (fun h48 => absurd h48 (by decide))
            refine W_aload_n d_44_53 rfl (by decide) ?_
            refine W_getf d_44_54 o_44 k_3_41 rfl rfl ?_
            rw [h4.1.2.2.2.2.1]
            refine W_bipush d_44_57 (v := 60) (by decide) ?_
            refine W_icmp_eq (tgt := 73) d_44_59 (by decide) (fun h59 => ?_) (fun h59 => absurd hu h59)
            refine W_aload_n d_44_73 rfl (by decide) ?_
            refine W_callV d_44_74 o_44 (Or.inl k_3_58) (by omega) (x_43) rfl (mrecv_of rfl o_43.symm) rfl (Nat.le_of_ble_eq_true rfl) ?_
            rw [h4.1.2.2.2.2.1]
            refine W_istore_n d_44_77 rfl ?_
            refine W_aload_n d_44_78 rfl (by decide) ?_
            refine W_callVQ d_44_79 o_44 (Or.inl k_3_31) (by omega) (x_47n hz hby (by omega) q.2.1 h4.1) rfl (mrecv_of rfl o_47.symm) rfl (Nat.le_of_ble_eq_true rfl) ?_
            rintro _ _ ⟨rfl, B2, hB2, rfl⟩
            refine W_aload_n d_44_82 rfl (by decide) ?_
            refine W_iconst d_44_83 (v := 2) (by decide) ?_
            refine W_iload_n d_44_84 rfl ?_
            refine W_callVQ d_44_85 o_44 (Or.inl k_3_44) (by omega) (hl2 T1 B2 h4.2.1 hB2) rfl (mrecv_of rfl o_40.symm) rfl (Nat.le_of_ble_eq_true rfl) ?_
            rintro _ _ ⟨B3, T3, rfl, rfl, hT3, k0, k1, k2, k3⟩
            show Wp _ _ _ _ (.int 1 :: _) _ _
            have k4 : RS f sz s2 t B3 ∧ LA (T1 t) (z + l1.length) l2 (T3 t) := k3 rfl
            refine W_if_ne (tgt := 93) d_44_88 (by decide) (fun _ => ?_) (fun h88 => absurd h88 (by decide))
            refine W_aload_n d_44_93 rfl (by decide) ?_
            refine W_getf d_44_94 o_44 k_3_19 rfl rfl ?_
            show Wp _ _ _ _ (lref (B3 1 5) :: _) _ _
            rw [k4.1.2.2.2.2.2.2, lref_nI ht]
            refine W_iload_n d_44_97 rfl ?_
            refine W_callV d_44_98 o_44 (Or.inl k_3_62) (by omega) (x_17 ht (n := z + l1.length + l2.length) k4.2.1 (by omega)) rfl (mrecv_of (h_law (by assumption)) o_17.symm) rfl (Nat.le_of_ble_eq_true rfl) ?_
            refine W_iconst d_44_101 (v := 1) (by decide) ?_
            refine W_iret d_44_102 rt_44 rfl ?_
            refine ⟨B3, _, rfl, rfl, fun i j hi => ((u3_o2 hi).trans (hT3 i j hi)).trans (hT1 i j hi), k0, k1, k2, fun _ => ⟨k4.1, ?_⟩⟩
            show LA _ _ (l1 ++ l2 ++ [cst (tok f sz s1)]) _
            rw [List.append_assoc]
            exact h4.2.app (k4.2.app LA_one)
        · have hu := hu.resolve_left hv
          cases c2 with
          | false =>
            rw [pbd_f]
            refine W_aload_n d_44_0 rfl (by decide) ?_
            refine W_getf d_44_1 o_44 k_3_41 rfl rfl ?_
            rw [b4]
            refine W_iconst d_44_4 (v := 5) (by decide) ?_
            refine W_icmp_ne (tgt := 42) d_44_5 (by decide) (fun h5 => ?_) (fun h5 => absurd h5 hk5)
            refine W_aload_n d_44_42 rfl (by decide) ?_
            refine W_iconst d_44_43 (v := 2) (by decide) ?_
            refine W_iload_n d_44_44 rfl ?_
            refine W_callVQ d_44_45 o_44 (Or.inl k_3_44) (by omega) hl rfl (mrecv_of rfl o_40.symm) rfl (Nat.le_of_ble_eq_true rfl) ?_
            rintro _ _ ⟨B1, T1, rfl, rfl, hT1, h0, h1, h2, h3⟩
            show Wp _ _ _ _ (.int 1 :: _) _ _
            have h4 : RS f sz s1 t B1 ∧ LA (T t) z l1 (T1 t) := h3 rfl
            refine W_if_ne (tgt := 53) d_44_48 (by decide) (fun _ => ?_) (fun h48 => absurd h48 (by decide))
            refine W_aload_n d_44_53 rfl (by decide) ?_
            refine W_getf d_44_54 o_44 k_3_41 rfl rfl ?_
            rw [h4.1.2.2.2.2.1]
            refine W_bipush d_44_57 (v := 60) (by decide) ?_
            refine W_icmp_eq (tgt := 73) d_44_59 (by decide) (fun h59 => absurd h59 hv) (fun h59 => ?_)
            refine W_aload_n d_44_62 rfl (by decide) ?_
            refine W_getf d_44_63 o_44 k_3_41 rfl rfl ?_
            rw [h4.1.2.2.2.2.1]
            refine W_bipush d_44_66 (v := 61) (by decide) ?_
            refine W_icmp_eq (tgt := 73) d_44_68 (by decide) (fun h68 => ?_) (fun h68 => absurd hu h68)
            refine W_aload_n d_44_73 rfl (by decide) ?_
            refine W_callV d_44_74 o_44 (Or.inl k_3_58) (by omega) (x_43) rfl (mrecv_of rfl o_43.symm) rfl (Nat.le_of_ble_eq_true rfl) ?_
            rw [h4.1.2.2.2.2.1]
            refine W_istore_n d_44_77 rfl ?_
            refine W_aload_n d_44_78 rfl (by decide) ?_
            refine W_callVQ d_44_79 o_44 (Or.inl k_3_31) (by omega) (x_47n hz hby (by omega) q.2.1 h4.1) rfl (mrecv_of rfl o_47.symm) rfl (Nat.le_of_ble_eq_true rfl) ?_
            rintro _ _ ⟨rfl, B2, hB2, rfl⟩
            refine W_aload_n d_44_82 rfl (by decide) ?_
            refine W_iconst d_44_83 (v := 2) (by decide) ?_
            refine W_iload_n d_44_84 rfl ?_
            refine W_callVQ d_44_85 o_44 (Or.inl k_3_44) (by omega) (hl2 T1 B2 h4.2.1 hB2) rfl (mrecv_of rfl o_40.symm) rfl (Nat.le_of_ble_eq_true rfl) ?_
            rintro _ _ ⟨B3, T3, rfl, rfl, hT3, k0, k1, k2, k3⟩
            show Wp _ _ _ _ (.int 0 :: _) _ _
            refine W_if_ne (tgt := 93) d_44_88 (by decide) (fun h88 => absurd h88 (by decide)) (fun _ => ?_)
            refine W_iconst d_44_91 (v := 0) (by decide) ?_
            refine W_iret d_44_92 rt_44 rfl ?_
            exact ⟨B3, T3, rfl, rfl, fun i j hi => (hT3 i j hi).trans (hT1 i j hi), k0, k1, k2, no_tf⟩
          | true =>
            have q2 := pgo_ok F _ _ _ _ _ hn.2 hr2
            rw [pbd_t]
            refine W_aload_n d_44_0 rfl (by decide) ?_
            refine W_getf d_44_1 o_44 k_3_41 rfl rfl ?_
            rw [b4]
            refine W_iconst d_44_4 (v := 5) (by decide) ?_
            refine W_icmp_ne (tgt := 42) d_44_5 (by decide) (fun h5 => ?_) (fun h5 => absurd h5 hk5)
            refine W_aload_n d_44_42 rfl (by decide) ?_
            refine W_iconst d_44_43 (v := 2) (by decide) ?_
            refine W_iload_n d_44_44 rfl ?_
            refine W_callVQ d_44_45 o_44 (Or.inl k_3_44) (by omega) hl rfl (mrecv_of rfl o_40.symm) rfl (Nat.le_of_ble_eq_true rfl) ?_
            rintro _ _ ⟨B1, T1, rfl, rfl, hT1, h0, h1, h2, h3⟩
            show Wp _ _ _ _ (.int 1 :: _) _ _
            have h4 : RS f sz s1 t B1 ∧ LA (T t) z l1 (T1 t) := h3 rfl
            refine W_if_ne (tgt := 53) d_44_48 (by decide) (fun _ => ?_) (fun h48 => absurd h48 (by decide))
            refine W_aload_n d_44_53 rfl (by decide) ?_
            refine W_getf d_44_54 o_44 k_3_41 rfl rfl ?_
            rw [h4.1.2.2.2.2.1]
            refine W_bipush d_44_57 (v := 60) (by decide) ?_
            refine W_icmp_eq (tgt := 73) d_44_59 (by decide) (fun h59 => absurd h59 hv) (fun h59 => ?_)
            refine W_aload_n d_44_62 rfl (by decide) ?_
            refine W_getf d_44_63 o_44 k_3_41 rfl rfl ?_
            rw [h4.1.2.2.2.2.1]
            refine W_bipush d_44_66 (v := 61) (by decide) ?_
            refine W_icmp_eq (tgt := 73) d_44_68 (by decide) (fun h68 => ?_) (fun h68 => absurd hu h68)
            refine W_aload_n d_44_73 rfl (by decide) ?_
            refine W_callV d_44_74 o_44 (Or.inl k_3_58) (by omega) (x_43) rfl (mrecv_of rfl o_43.symm) rfl (Nat.le_of_ble_eq_true rfl) ?_
            rw [h4.1.2.2.2.2.1]
            refine W_istore_n d_44_77 rfl ?_
            refine W_aload_n d_44_78 rfl (by decide) ?_
            refine W_callVQ d_44_79 o_44 (Or.inl k_3_31) (by omega) (x_47n hz hby (by omega) q.2.1 h4.1) rfl (mrecv_of rfl o_47.symm) rfl (Nat.le_of_ble_eq_true rfl) ?_
            rintro _ _ ⟨rfl, B2, hB2, rfl⟩
            refine W_aload_n d_44_82 rfl (by decide) ?_
            refine W_iconst d_44_83 (v := 2) (by decide) ?_
            refine W_iload_n d_44_84 rfl ?_
            refine W_callVQ d_44_85 o_44 (Or.inl k_3_44) (by omega) (hl2 T1 B2 h4.2.1 hB2) rfl (mrecv_of rfl o_40.symm) rfl (Nat.le_of_ble_eq_true rfl) ?_
            rintro _ _ ⟨B3, T3, rfl, rfl, hT3, k0, k1, k2, k3⟩
            show Wp _ _ _ _ (.int 1 :: _) _ _
            have k4 : RS f sz s2 t B3 ∧ LA (T1 t) (z + l1.length) l2 (T3 t) := k3 rfl
            refine W_if_ne (tgt := 93) d_44_88 (by decide) (fun _ => ?_) (fun h88 => absurd h88 (by decide))
            refine W_aload_n d_44_93 rfl (by decide) ?_
            refine W_getf d_44_94 o_44 k_3_19 rfl rfl ?_
            show Wp _ _ _ _ (lref (B3 1 5) :: _) _ _
            rw [k4.1.2.2.2.2.2.2, lref_nI ht]
            refine W_iload_n d_44_97 rfl ?_
            refine W_callV d_44_98 o_44 (Or.inl k_3_62) (by omega) (x_17 ht (n := z + l1.length + l2.length) k4.2.1 (by omega)) rfl (mrecv_of (h_law (by assumption)) o_17.symm) rfl (Nat.le_of_ble_eq_true rfl) ?_
            refine W_iconst d_44_101 (v := 1) (by decide) ?_
            refine W_iret d_44_102 rt_44 rfl ?_
            refine ⟨B3, _, rfl, rfl, fun i j hi => ((u3_o2 hi).trans (hT3 i j hi)).trans (hT1 i j hi), k0, k1, k2, fun _ => ⟨k4.1, ?_⟩⟩
            show LA _ _ (l1 ++ l2 ++ [cst (tok f sz s1)]) _
            rw [List.append_assoc]
            exact h4.2.app (k4.2.app LA_one)
      · rw [if_neg hu]
        refine W_aload_n d_44_0 rfl (by decide) ?_
        refine W_getf d_44_1 o_44 k_3_41 rfl rfl ?_
        rw [b4]
        refine W_iconst d_44_4 (v := 5) (by decide) ?_
        refine W_icmp_ne (tgt := 42) d_44_5 (by decide) (fun h5 => ?_) (fun h5 => absurd h5 hk5)
        refine W_aload_n d_44_42 rfl (by decide) ?_
        refine W_iconst d_44_43 (v := 2) (by decide) ?_
        refine W_iload_n d_44_44 rfl ?_
        refine W_callVQ d_44_45 o_44 (Or.inl k_3_44) (by omega) hl rfl (mrecv_of rfl o_40.symm) rfl (Nat.le_of_ble_eq_true rfl) ?_
        rintro _ _ ⟨B1, T1, rfl, rfl, hT1, h0, h1, h2, h3⟩
        show Wp _ _ _ _ (.int 1 :: _) _ _
        have h4 : RS f sz s1 t B1 ∧ LA (T t) z l1 (T1 t) := h3 rfl
        refine W_if_ne (tgt := 53) d_44_48 (by decide) (fun _ => ?_) (fun h48 => absurd h48 (by decide))
        refine W_aload_n d_44_53 rfl (by decide) ?_
        refine W_getf d_44_54 o_44 k_3_41 rfl rfl ?_
        rw [h4.1.2.2.2.2.1]
        refine W_bipush d_44_57 (v := 60) (by decide) ?_
        refine W_icmp_eq (tgt := 73) d_44_59 (by decide) (fun h59 => absurd h59 (fun q => hu (Or.inl q))) (fun h59 => ?_)
        refine W_aload_n d_44_62 rfl (by decide) ?_
        refine W_getf d_44_63 o_44 k_3_41 rfl rfl ?_
        rw [h4.1.2.2.2.2.1]
        refine W_bipush d_44_66 (v := 61) (by decide) ?_
        refine W_icmp_eq (tgt := 73) d_44_68 (by decide) (fun h68 => absurd h68 (fun q => hu (Or.inr q))) (fun h68 => ?_)
        refine W_iconst d_44_71 (v := 1) (by decide) ?_
        refine W_iret d_44_72 rt_44 rfl ?_
        exact ⟨B1, T1, rfl, rfl, hT1, h0, h1, h2, fun _ => h4⟩
theorem cp_46 {F : Nat} (IH : CP g N A K E l G Qm f sz t F) (ht : t < 6) (hz : sz ≤ 160) (hby : ∀ k, k < sz → 0 ≤ f k ∧ f k ≤ 255) {d : Nat} {T : Nat → tR} {B : tR} {s o z : Nat} (hd : 8 + 11 * (5 - o) + 10 ≤ d) (ho : o ≤ 5) (hs : s ≤ sz) (hzs : z ≤ s) (hT : T t 2 0 = nI z) (hB : RS f sz s t B) (hF : (sz - s) * 6 + 5 < F) : Wp d 46 0 (ment 46 [.ref 55, .int (nI o)]) [] (N, H3 g (cc A T K B E l G) Qm) (PP g N A K E l G Qm f sz t T z (pbd (pgo f sz F 0 s o) (fun s1 l1 => if tok f sz s1 = 41 then (true, nxt f sz s1, l1) else (false, s1, [])))) := by
  have w0 : wdn 0 = 9 := by decide
  have g0 : hgt 0 = 5 := by decide
  obtain ⟨b, s1, l1, hr⟩ := tri (pgo f sz F 0 s o)
  have hl : Wp (d - 1) 40 0 (ment 40 [.ref 55, .int 0, .int (nI o)]) [] (N, H3 g (cc A T K B E l G) Qm) (PP g N A K E l G Qm f sz t T z (b, s1, l1)) := by
    rw [← hr]
    exact (IH (d - 1) T B 0 s o z (by omega) ho hs hzs hT hB (by omega)).1 (by decide)
  rw [hr]
  show Wp _ 46 0 [.ref 55, .int (nI o)] [] _ _
  cases b with
  | false =>
    rw [pbd_f]
    refine W_aload_n d_46_0 rfl (by decide) ?_
    refine W_iconst d_46_1 (v := 0) (by decide) ?_
    refine W_iload_n d_46_2 rfl ?_
    refine W_callVQ d_46_3 o_46 (Or.inl k_3_44) (by omega) hl rfl (mrecv_of rfl o_40.symm) rfl (Nat.le_of_ble_eq_true rfl) ?_
    rintro _ _ ⟨B1, T1, rfl, rfl, hT1, h0, h1, h2, h3⟩
    show Wp _ _ _ _ (.int 0 :: _) _ _
    refine W_if_eq (tgt := 18) d_46_6 (by decide) (fun _ => ?_) (fun h6 => absurd h6 (by decide))
    refine W_iconst d_46_18 (v := 0) (by decide) ?_
    refine W_iret d_46_19 rt_46 rfl ?_
    exact ⟨B1, T1, rfl, rfl, hT1, h0, h1, h2, no_tf⟩
  | true =>
    have q := pgo_ok F _ _ _ _ _ hs hr
    rw [pbd_t]
    by_cases hu : tok f sz s1 = 41
    · rw [if_pos hu]
      refine W_aload_n d_46_0 rfl (by decide) ?_
      refine W_iconst d_46_1 (v := 0) (by decide) ?_
      refine W_iload_n d_46_2 rfl ?_
      refine W_callVQ d_46_3 o_46 (Or.inl k_3_44) (by omega) hl rfl (mrecv_of rfl o_40.symm) rfl (Nat.le_of_ble_eq_true rfl) ?_
      rintro _ _ ⟨B1, T1, rfl, rfl, hT1, h0, h1, h2, h3⟩
      show Wp _ _ _ _ (.int 1 :: _) _ _
      have h4 : RS f sz s1 t B1 ∧ LA (T t) z l1 (T1 t) := h3 rfl
      refine W_if_eq (tgt := 18) d_46_6 (by decide) (fun h6 => absurd h6 (by decide)) (fun _ => ?_)
      refine W_aload_n d_46_9 rfl (by decide) ?_
      refine W_getf d_46_10 o_46 k_3_41 rfl rfl ?_
      rw [h4.1.2.2.2.2.1]
      refine W_bipush d_46_13 (v := 41) (by decide) ?_
      refine W_icmp_eq (tgt := 20) d_46_15 (by decide) (fun h15 => ?_) (fun h15 => absurd hu h15)
      refine W_aload_n d_46_20 rfl (by decide) ?_
      refine W_callVQ d_46_21 o_46 (Or.inl k_3_31) (by omega) (x_47n hz hby (by omega) q.2.1 h4.1) rfl (mrecv_of rfl o_47.symm) rfl (Nat.le_of_ble_eq_true rfl) ?_
      rintro _ _ ⟨rfl, B2, hB2, rfl⟩
      refine W_iconst d_46_24 (v := 1) (by decide) ?_
      refine W_iret d_46_25 rt_46 rfl ?_
      exact ⟨B2, T1, rfl, rfl, hT1, hB2.1, hB2.2.1, hB2.2.2.2.1, fun _ => ⟨hB2, h4.2⟩⟩
    · rw [if_neg hu]
      refine W_aload_n d_46_0 rfl (by decide) ?_
      refine W_iconst d_46_1 (v := 0) (by decide) ?_
      refine W_iload_n d_46_2 rfl ?_
      refine W_callVQ d_46_3 o_46 (Or.inl k_3_44) (by omega) hl rfl (mrecv_of rfl o_40.symm) rfl (Nat.le_of_ble_eq_true rfl) ?_
      rintro _ _ ⟨B1, T1, rfl, rfl, hT1, h0, h1, h2, h3⟩
      show Wp _ _ _ _ (.int 1 :: _) _ _
      have h4 : RS f sz s1 t B1 ∧ LA (T t) z l1 (T1 t) := h3 rfl
      refine W_if_eq (tgt := 18) d_46_6 (by decide) (fun h6 => absurd h6 (by decide)) (fun _ => ?_)
      refine W_aload_n d_46_9 rfl (by decide) ?_
      refine W_getf d_46_10 o_46 k_3_41 rfl rfl ?_
      rw [h4.1.2.2.2.2.1]
      refine W_bipush d_46_13 (v := 41) (by decide) ?_
      refine W_icmp_eq (tgt := 20) d_46_15 (by decide) (fun h15 => absurd h15 hu) (fun h15 => ?_)
      refine W_iconst d_46_18 (v := 0) (by decide) ?_
      refine W_iret d_46_19 rt_46 rfl ?_
      exact ⟨B1, T1, rfl, rfl, hT1, h0, h1, h2, no_tf⟩
theorem cp_5b {F : Nat} (IH : CP g N A K E l G Qm f sz t F) (ht : t < 6) (hz : sz ≤ 160) (hby : ∀ k, k < sz → 0 ≤ f k ∧ f k ≤ 255) {d : Nat} {T : Nat → tR} {B : tR} {s o z : Nat} (hd : 8 + 11 * (5 - o) ≤ d) (ho : o ≤ 5) (hs : s ≤ sz) (hzs : z ≤ s) (hT : T t 2 0 = nI z) (hB : RS f sz s t B) (hF : (sz - s) * 6 < F + 1) : Wp d 45 67 [.ref 55, .int (nI o), .null] [] (N, H3 g (cc A T K B E l G) Qm) (PP g N A K E l G Qm f sz t T z (if ¬ (tok f sz s = 45 ∨ tok f sz s = 40) ∨ 5 ≤ o then (false, s, []) else if tok f sz s = 40 then pbd (pgo f sz F 0 (nxt f sz s) (o + 1)) (fun s1 l1 => if tok f sz s1 = 41 then (true, nxt f sz s1, l1) else (false, s1, [])) else pbd (pgo f sz F 5 (nxt f sz s) (o + 1)) (fun s1 l1 => (true, s1, l1 ++ [-9])))) := by
  have w5 : wdn 5 = 0 := by decide
  have g5 : hgt 5 = 0 := by decide
  have hB' := hB
  obtain ⟨b0, b1, b2, b3, b4, b5, b6⟩ := hB'
  by_cases h45 : tok f sz s = 45
  · have hn40 : ¬ tok f sz s = 40 := by rw [h45]; decide
    have hlt := tok_v hs h45 (by decide)
    have hn := nxt_b (f := f) hlt
    by_cases ho5 : 5 ≤ o
    · rw [if_pos (Or.inr ho5)]
      refine W_aload_n d_45_67 rfl (by decide) ?_
      refine W_getf d_45_68 o_45 k_3_41 rfl rfl ?_
      rw [b4]
      refine W_bipush d_45_71 (v := 45) (by decide) ?_
      refine W_icmp_eq (tgt := 85) d_45_73 (by decide) (fun h73 => ?_) (fun h73 => absurd h45 h73)
      refine W_iload_n d_45_85 rfl ?_
      refine W_iconst d_45_86 (v := 5) (by decide) ?_
      refine W_icmp_lt (tgt := 92) d_45_87 (by decide) (fun h87 => absurd h87 (nI_nlt (a := o) (b := 5) (by omega) (by omega))) (fun h87 => ?_)
      refine W_iconst d_45_90 (v := 0) (by decide) ?_
      refine W_iret d_45_91 rt_45 rfl ?_
      exact ⟨B, T, rfl, rfl, fun _ _ _ => rfl, b0, b1, b3, no_tf⟩
    · rw [if_neg (fun q => q.elim (fun q => q (Or.inl h45)) ho5), if_neg hn40]
      obtain ⟨b, s1, l1, hr⟩ := tri (pgo f sz F 5 (nxt f sz s) (o + 1))
      have hl : ∀ B2, RS f sz (nxt f sz s) t B2 → Wp (d - 1) 45 0 (ment 45 [.ref 55, .int (nI (o + 1))]) [] (N, H3 g (cc A T K B2 E l G) Qm) (PP g N A K E l G Qm f sz t T z (b, s1, l1)) := fun B2 hB2 => by
        rw [← hr]
        exact (IH (d - 1) T B2 5 (nxt f sz s) (o + 1) z (by omega) (by omega) hn.2 (by omega) hT hB2 (by omega)).2.2.1 rfl
      rw [hr]
      cases b with
      | false =>
        rw [pbd_f]
        refine W_aload_n d_45_67 rfl (by decide) ?_
        refine W_getf d_45_68 o_45 k_3_41 rfl rfl ?_
        rw [b4]
        refine W_bipush d_45_71 (v := 45) (by decide) ?_
        refine W_icmp_eq (tgt := 85) d_45_73 (by decide) (fun h73 => ?_) (fun h73 => absurd h45 h73)
        refine W_iload_n d_45_85 rfl ?_
        refine W_iconst d_45_86 (v := 5) (by decide) ?_
        refine W_icmp_lt (tgt := 92) d_45_87 (by decide) (fun h87 => ?_) (fun h87 => absurd (nI_lt (a := o) (b := 5) (by omega) (by omega)) h87)
        refine W_aload_n d_45_92 rfl (by decide) ?_
        refine W_getf d_45_93 o_45 k_3_41 rfl rfl ?_
        rw [b4]
        refine W_bipush d_45_96 (v := 40) (by decide) ?_
        refine W_icmp_ne (tgt := 105) d_45_98 (by decide) (fun h98 => ?_) (fun h98 => absurd h98 hn40)
        refine W_iconst d_45_105 (v := 0) (by decide) ?_
        refine W_istore_n d_45_106 rfl ?_
        refine W_aload_n d_45_107 rfl (by decide) ?_
        refine W_callVQ d_45_108 o_45 (Or.inl k_3_31) (by omega) (x_47n hz hby (by omega) hs hB) rfl (mrecv_of rfl o_47.symm) rfl (Nat.le_of_ble_eq_true rfl) ?_
        rintro _ _ ⟨rfl, B2, hB2, rfl⟩
        refine W_iload_n d_45_111 rfl ?_
        refine W_if_eq (tgt := 123) d_45_112 (by decide) (fun _ => ?_) (fun h112 => absurd h112 (by decide))
        refine W_aload_n d_45_123 rfl (by decide) ?_
        refine W_iload_n d_45_124 rfl ?_
        refine W_iconst d_45_125 (v := 1) (by decide) ?_
        refine W_iadd d_45_126 ?_
        rw [show ((nI o + 1 : Int32)) = nI (o + 1) from nI_add o 1]
        refine W_callVQ d_45_127 o_45 (Or.inl k_3_68) (by omega) (hl B2 hB2) rfl (mrecv_of rfl o_45.symm) rfl (Nat.le_of_ble_eq_true rfl) ?_
        rintro _ _ ⟨B1, T1, rfl, rfl, hT1, h0, h1, h2, h3⟩
        show Wp _ _ _ _ (.int 0 :: _) _ _
        refine W_if_ne (tgt := 135) d_45_130 (by decide) (fun h130 => absurd h130 (by decide)) (fun _ => ?_)
        refine W_iconst d_45_133 (v := 0) (by decide) ?_
        refine W_iret d_45_134 rt_45 rfl ?_
        exact ⟨B1, T1, rfl, rfl, hT1, h0, h1, h2, no_tf⟩
      | true =>
        have q := pgo_ok F _ _ _ _ _ hn.2 hr
        have q3 := q.2.2.1 (by decide)
        rw [pbd_t]
        refine W_aload_n d_45_67 rfl (by decide) ?_
        refine W_getf d_45_68 o_45 k_3_41 rfl rfl ?_
        rw [b4]
        refine W_bipush d_45_71 (v := 45) (by decide) ?_
        refine W_icmp_eq (tgt := 85) d_45_73 (by decide) (fun h73 => ?_) (fun h73 => absurd h45 h73)
        refine W_iload_n d_45_85 rfl ?_
        refine W_iconst d_45_86 (v := 5) (by decide) ?_
        refine W_icmp_lt (tgt := 92) d_45_87 (by decide) (fun h87 => ?_) (fun h87 => absurd (nI_lt (a := o) (b := 5) (by omega) (by omega)) h87)
        refine W_aload_n d_45_92 rfl (by decide) ?_
        refine W_getf d_45_93 o_45 k_3_41 rfl rfl ?_
        rw [b4]
        refine W_bipush d_45_96 (v := 40) (by decide) ?_
        refine W_icmp_ne (tgt := 105) d_45_98 (by decide) (fun h98 => ?_) (fun h98 => absurd h98 hn40)
        refine W_iconst d_45_105 (v := 0) (by decide) ?_
        refine W_istore_n d_45_106 rfl ?_
        refine W_aload_n d_45_107 rfl (by decide) ?_
        refine W_callVQ d_45_108 o_45 (Or.inl k_3_31) (by omega) (x_47n hz hby (by omega) hs hB) rfl (mrecv_of rfl o_47.symm) rfl (Nat.le_of_ble_eq_true rfl) ?_
        rintro _ _ ⟨rfl, B2, hB2, rfl⟩
        refine W_iload_n d_45_111 rfl ?_
        refine W_if_eq (tgt := 123) d_45_112 (by decide) (fun _ => ?_) (fun h112 => absurd h112 (by decide))
        refine W_aload_n d_45_123 rfl (by decide) ?_
        refine W_iload_n d_45_124 rfl ?_
        refine W_iconst d_45_125 (v := 1) (by decide) ?_
        refine W_iadd d_45_126 ?_
        rw [show ((nI o + 1 : Int32)) = nI (o + 1) from nI_add o 1]
        refine W_callVQ d_45_127 o_45 (Or.inl k_3_68) (by omega) (hl B2 hB2) rfl (mrecv_of rfl o_45.symm) rfl (Nat.le_of_ble_eq_true rfl) ?_
        rintro _ _ ⟨B1, T1, rfl, rfl, hT1, h0, h1, h2, h3⟩
        show Wp _ _ _ _ (.int 1 :: _) _ _
        have h4 : RS f sz s1 t B1 ∧ LA (T t) z l1 (T1 t) := h3 rfl
        refine W_if_ne (tgt := 135) d_45_130 (by decide) (fun _ => ?_) (fun h130 => absurd h130 (by decide))
        refine W_aload_n d_45_135 rfl (by decide) ?_
        refine W_getf d_45_136 o_45 k_3_19 rfl rfl ?_
        show Wp _ _ _ _ (lref (B1 1 5) :: _) _ _
        rw [h4.1.2.2.2.2.2.2, lref_nI ht]
        refine W_bipush d_45_139 (v := (-9)) (by decide) ?_
        refine W_callV d_45_141 o_45 (Or.inl k_3_62) (by omega) (x_17 ht (n := z + l1.length) h4.2.1 (by omega)) rfl (mrecv_of (h_law (by assumption)) o_17.symm) rfl (Nat.le_of_ble_eq_true rfl) ?_
        refine W_iconst d_45_144 (v := 1) (by decide) ?_
        refine W_iret d_45_145 rt_45 rfl ?_
        exact ⟨B1, _, rfl, rfl, fun i j hi => (u3_o2 hi).trans (hT1 i j hi), h0, h1, h2, fun _ => ⟨h4.1, h4.2.app LA_one⟩⟩
  · by_cases h40 : tok f sz s = 40
    · have hlt := tok_v hs h40 (by decide)
      have hn := nxt_b (f := f) hlt
      by_cases ho5 : 5 ≤ o
      · rw [if_pos (Or.inr ho5)]
        refine W_aload_n d_45_67 rfl (by decide) ?_
        refine W_getf d_45_68 o_45 k_3_41 rfl rfl ?_
        rw [b4]
        refine W_bipush d_45_71 (v := 45) (by decide) ?_
        refine W_icmp_eq (tgt := 85) d_45_73 (by decide) (fun h73 => absurd h73 h45) (fun h73 => ?_)
        refine W_aload_n d_45_76 rfl (by decide) ?_
        refine W_getf d_45_77 o_45 k_3_41 rfl rfl ?_
        rw [b4]
        refine W_bipush d_45_80 (v := 40) (by decide) ?_
        refine W_icmp_ne (tgt := 90) d_45_82 (by decide) (fun h82 => absurd h40 h82) (fun h82 => ?_)
        refine W_iload_n d_45_85 rfl ?_
        refine W_iconst d_45_86 (v := 5) (by decide) ?_
        refine W_icmp_lt (tgt := 92) d_45_87 (by decide) (fun h87 => absurd h87 (nI_nlt (a := o) (b := 5) (by omega) (by omega))) (fun h87 => ?_)
        refine W_iconst d_45_90 (v := 0) (by decide) ?_
        refine W_iret d_45_91 rt_45 rfl ?_
        exact ⟨B, T, rfl, rfl, fun _ _ _ => rfl, b0, b1, b3, no_tf⟩
      · rw [if_neg (fun q => q.elim (fun q => q (Or.inr h40)) ho5), if_pos h40]
        refine W_aload_n d_45_67 rfl (by decide) ?_
        refine W_getf d_45_68 o_45 k_3_41 rfl rfl ?_
        rw [b4]
        refine W_bipush d_45_71 (v := 45) (by decide) ?_
        refine W_icmp_eq (tgt := 85) d_45_73 (by decide) (fun h73 => absurd h73 h45) (fun h73 => ?_)
        refine W_aload_n d_45_76 rfl (by decide) ?_
        refine W_getf d_45_77 o_45 k_3_41 rfl rfl ?_
        rw [b4]
        refine W_bipush d_45_80 (v := 40) (by decide) ?_
        refine W_icmp_ne (tgt := 90) d_45_82 (by decide) (fun h82 => absurd h40 h82) (fun h82 => ?_)
        refine W_iload_n d_45_85 rfl ?_
        refine W_iconst d_45_86 (v := 5) (by decide) ?_
        refine W_icmp_lt (tgt := 92) d_45_87 (by decide) (fun h87 => ?_) (fun h87 => absurd (nI_lt (a := o) (b := 5) (by omega) (by omega)) h87)
        refine W_aload_n d_45_92 rfl (by decide) ?_
        refine W_getf d_45_93 o_45 k_3_41 rfl rfl ?_
        rw [b4]
        refine W_bipush d_45_96 (v := 40) (by decide) ?_
        refine W_icmp_ne (tgt := 105) d_45_98 (by decide) (fun h98 => absurd h40 h98) (fun h98 => ?_)
        refine W_iconst d_45_101 (v := 1) (by decide) ?_
        refine W_goto (tgt := 106) d_45_102 (by decide) ?_
        refine W_istore_n d_45_106 rfl ?_
        refine W_aload_n d_45_107 rfl (by decide) ?_
        refine W_callVQ d_45_108 o_45 (Or.inl k_3_31) (by omega) (x_47n hz hby (by omega) hs hB) rfl (mrecv_of rfl o_47.symm) rfl (Nat.le_of_ble_eq_true rfl) ?_
        rintro _ _ ⟨rfl, B2, hB2, rfl⟩
        refine W_iload_n d_45_111 rfl ?_
        refine W_if_eq (tgt := 123) d_45_112 (by decide) (fun h112 => absurd h112 (by decide)) (fun _ => ?_)
        refine W_aload_n d_45_115 rfl (by decide) ?_
        refine W_iload_n d_45_116 rfl ?_
        refine W_iconst d_45_117 (v := 1) (by decide) ?_
        refine W_iadd d_45_118 ?_
        rw [show ((nI o + 1 : Int32)) = nI (o + 1) from nI_add o 1]
        refine W_callVQ d_45_119 o_45 (Or.inl k_3_74) (by omega) (cp_46 IH ht hz hby (by omega) (by omega) hn.2 (by omega) hT hB2 (by omega)) rfl (mrecv_of rfl o_46.symm) rfl (Nat.le_of_ble_eq_true rfl) ?_
        rintro _ _ ⟨B1, T1, rfl, rfl, hT1, h0, h1, h2, h3⟩
        refine W_iret d_45_122 rt_45 bI_nzb ?_
        exact ⟨B1, T1, rfl, rfl, hT1, h0, h1, h2, h3⟩
    · rw [if_pos (Or.inl (fun q => q.elim h45 h40))]
      refine W_aload_n d_45_67 rfl (by decide) ?_
      refine W_getf d_45_68 o_45 k_3_41 rfl rfl ?_
      rw [b4]
      refine W_bipush d_45_71 (v := 45) (by decide) ?_
      refine W_icmp_eq (tgt := 85) d_45_73 (by decide) (fun h73 => absurd h73 h45) (fun h73 => ?_)
      refine W_aload_n d_45_76 rfl (by decide) ?_
      refine W_getf d_45_77 o_45 k_3_41 rfl rfl ?_
      rw [b4]
      refine W_bipush d_45_80 (v := 40) (by decide) ?_
      refine W_icmp_ne (tgt := 90) d_45_82 (by decide) (fun h82 => ?_) (fun h82 => absurd h82 h40)
      refine W_iconst d_45_90 (v := 0) (by decide) ?_
      refine W_iret d_45_91 rt_45 rfl ?_
      exact ⟨B, T, rfl, rfl, fun _ _ _ => rfl, b0, b1, b3, no_tf⟩
theorem cp_5 {F : Nat} (IH : CP g N A K E l G Qm f sz t F) (ht : t < 6) (hz : sz ≤ 160) (hby : ∀ k, k < sz → 0 ≤ f k ∧ f k ≤ 255) {d : Nat} {T : Nat → tR} {B : tR} {s o z : Nat} (hd : 8 + 11 * (5 - o) ≤ d) (ho : o ≤ 5) (hs : s ≤ sz) (hzs : z ≤ s) (hT : T t 2 0 = nI z) (hB : RS f sz s t B) (hF : (sz - s) * 6 < F + 1) : Wp d 45 0 (ment 45 [.ref 55, .int (nI o)]) [] (N, H3 g (cc A T K B E l G) Qm) (PP g N A K E l G Qm f sz t T z (pgo f sz (F + 1) 5 s o)) := by
  have hB' := hB
  obtain ⟨b0, b1, b2, b3, b4, b5, b6⟩ := hB'
  rw [pgo_5]
  show Wp _ 45 0 [.ref 55, .int (nI o), .null] [] _ _
  by_cases h12 : tok f sz s = 12
  · rw [if_pos (Or.inl h12)]
    have hlt := tok_v hs h12 (by decide)
    have hn := nxt_b (f := f) hlt
    have hv := b5 hlt (tok_12 h12).1
    have hop : num f (sz - s) s 0 = opd f sz s := by
      unfold opd
      rw [if_pos h12]
    refine W_aload_n d_45_0 rfl (by decide) ?_
    refine W_getf d_45_1 o_45 k_3_41 rfl rfl ?_
    rw [b4]
    refine W_bipush d_45_4 (v := 12) (by decide) ?_
    refine W_icmp_eq (tgt := 27) d_45_6 (by decide) (fun h6 => ?_) (fun h6 => absurd h12 h6)
    refine W_aload_n d_45_27 rfl (by decide) ?_
    refine W_getf d_45_28 o_45 k_3_19 rfl rfl ?_
    show Wp _ _ _ _ (lref (B 1 5) :: _) _ _
    rw [b6, lref_nI ht]
    refine W_aload_n d_45_31 rfl (by decide) ?_
    refine W_getf d_45_32 o_45 k_3_41 rfl rfl ?_
    rw [b4]
    refine W_bipush d_45_35 (v := 12) (by decide) ?_
    refine W_icmp_ne (tgt := 47) d_45_37 (by decide) (fun h37 => absurd h12 h37) (fun h37 => ?_)
    refine W_aload_n d_45_40 rfl (by decide) ?_
    refine W_getf d_45_41 o_45 k_3_71 rfl rfl ?_
    rw [hv, hop]
    refine W_goto (tgt := 58) d_45_44 (by decide) ?_
    refine W_callV d_45_58 o_45 (Or.inl k_3_62) (by omega) (x_17 ht (n := z) hT (by omega)) rfl (mrecv_of (h_law (by assumption)) o_17.symm) rfl (Nat.le_of_ble_eq_true rfl) ?_
    refine W_aload_n d_45_61 rfl (by decide) ?_
    refine W_callVQ d_45_62 o_45 (Or.inl k_3_31) (by omega) (x_47n hz hby (by omega) hs hB) rfl (mrecv_of rfl o_47.symm) rfl (Nat.le_of_ble_eq_true rfl) ?_
    rintro _ _ ⟨rfl, B2, hB2, rfl⟩
    refine W_iconst d_45_65 (v := 1) (by decide) ?_
    refine W_iret d_45_66 rt_45 rfl ?_
    exact ⟨B2, _, rfl, rfl, fun i j hi => u3_o2 hi, hB2.1, hB2.2.1, hB2.2.2.2.1, fun _ => ⟨hB2, LA_one⟩⟩
  · by_cases hlo : 6 ≤ tok f sz s
    · by_cases hhi : tok f sz s ≤ 11
      · rw [if_pos (Or.inr ⟨hlo, hhi⟩)]
        have hlt := one_lt hs (Or.inr ⟨hlo, hhi⟩)
        have hn := nxt_b (f := f) hlt
        have hop : 10000 + tok f sz s - 6 = opd f sz s := by
          unfold opd
          rw [if_neg h12]
        refine W_aload_n d_45_0 rfl (by decide) ?_
        refine W_getf d_45_1 o_45 k_3_41 rfl rfl ?_
        rw [b4]
        refine W_bipush d_45_4 (v := 12) (by decide) ?_
        refine W_icmp_eq (tgt := 27) d_45_6 (by decide) (fun h6 => absurd h6 h12) (fun h6 => ?_)
        refine W_aload_n d_45_9 rfl (by decide) ?_
        refine W_getf d_45_10 o_45 k_3_41 rfl rfl ?_
        rw [b4]
        refine W_bipush d_45_13 (v := 6) (by decide) ?_
        refine W_icmp_lt (tgt := 67) d_45_15 (by decide) (fun h15 => absurd h15 (Int32.not_lt.mpr hlo)) (fun h15 => ?_)
        refine W_aload_n d_45_18 rfl (by decide) ?_
        refine W_getf d_45_19 o_45 k_3_41 rfl rfl ?_
        rw [b4]
        refine W_bipush d_45_22 (v := 11) (by decide) ?_
        refine W_icmp_gt (tgt := 67) d_45_24 (by decide) (fun h24 => absurd h24 (Int32.not_lt.mpr hhi)) (fun h24 => ?_)
        refine W_aload_n d_45_27 rfl (by decide) ?_
        refine W_getf d_45_28 o_45 k_3_19 rfl rfl ?_
        show Wp _ _ _ _ (lref (B 1 5) :: _) _ _
        rw [b6, lref_nI ht]
        refine W_aload_n d_45_31 rfl (by decide) ?_
        refine W_getf d_45_32 o_45 k_3_41 rfl rfl ?_
        rw [b4]
        refine W_bipush d_45_35 (v := 12) (by decide) ?_
        refine W_icmp_ne (tgt := 47) d_45_37 (by decide) (fun h37 => ?_) (fun h37 => absurd h37 h12)
        refine W_sipush d_45_47 (v := 10000) (by decide) ?_
        refine W_aload_n d_45_50 rfl (by decide) ?_
        refine W_getf d_45_51 o_45 k_3_41 rfl rfl ?_
        rw [b4]
        refine W_iadd d_45_54 ?_
        refine W_bipush d_45_55 (v := 6) (by decide) ?_
        refine W_isub d_45_57 ?_
        rw [hop]
        refine W_callV d_45_58 o_45 (Or.inl k_3_62) (by omega) (x_17 ht (n := z) hT (by omega)) rfl (mrecv_of (h_law (by assumption)) o_17.symm) rfl (Nat.le_of_ble_eq_true rfl) ?_
        refine W_aload_n d_45_61 rfl (by decide) ?_
        refine W_callVQ d_45_62 o_45 (Or.inl k_3_31) (by omega) (x_47n hz hby (by omega) hs hB) rfl (mrecv_of rfl o_47.symm) rfl (Nat.le_of_ble_eq_true rfl) ?_
        rintro _ _ ⟨rfl, B2, hB2, rfl⟩
        refine W_iconst d_45_65 (v := 1) (by decide) ?_
        refine W_iret d_45_66 rt_45 rfl ?_
        exact ⟨B2, _, rfl, rfl, fun i j hi => u3_o2 hi, hB2.1, hB2.2.1, hB2.2.2.2.1, fun _ => ⟨hB2, LA_one⟩⟩
      · rw [if_neg (fun q => q.elim h12 (fun q => hhi q.2))]
        refine W_aload_n d_45_0 rfl (by decide) ?_
        refine W_getf d_45_1 o_45 k_3_41 rfl rfl ?_
        rw [b4]
        refine W_bipush d_45_4 (v := 12) (by decide) ?_
        refine W_icmp_eq (tgt := 27) d_45_6 (by decide) (fun h6 => absurd h6 h12) (fun h6 => ?_)
        refine W_aload_n d_45_9 rfl (by decide) ?_
        refine W_getf d_45_10 o_45 k_3_41 rfl rfl ?_
        rw [b4]
        refine W_bipush d_45_13 (v := 6) (by decide) ?_
        refine W_icmp_lt (tgt := 67) d_45_15 (by decide) (fun h15 => absurd h15 (Int32.not_lt.mpr hlo)) (fun h15 => ?_)
        refine W_aload_n d_45_18 rfl (by decide) ?_
        refine W_getf d_45_19 o_45 k_3_41 rfl rfl ?_
        rw [b4]
        refine W_bipush d_45_22 (v := 11) (by decide) ?_
        refine W_icmp_gt (tgt := 67) d_45_24 (by decide) (fun h24 => ?_) (fun h24 => absurd (Int32.not_le.mp hhi) h24)
        exact cp_5b IH ht hz hby hd ho hs hzs hT hB hF
    · rw [if_neg (fun q => q.elim h12 (fun q => hlo q.1))]
      refine W_aload_n d_45_0 rfl (by decide) ?_
      refine W_getf d_45_1 o_45 k_3_41 rfl rfl ?_
      rw [b4]
      refine W_bipush d_45_4 (v := 12) (by decide) ?_
      refine W_icmp_eq (tgt := 27) d_45_6 (by decide) (fun h6 => absurd h6 h12) (fun h6 => ?_)
      refine W_aload_n d_45_9 rfl (by decide) ?_
      refine W_getf d_45_10 o_45 k_3_41 rfl rfl ?_
      rw [b4]
      refine W_bipush d_45_13 (v := 6) (by decide) ?_
      refine W_icmp_lt (tgt := 67) d_45_15 (by decide) (fun h15 => ?_) (fun h15 => absurd (Int32.not_le.mp hlo) h15)
      exact cp_5b IH ht hz hby hd ho hs hzs hT hB hF
theorem cp (ht : t < 6) (hz : sz ≤ 160) (hby : ∀ k, k < sz → 0 ≤ f k ∧ f k ≤ 255) : ∀ F, CP g N A K E l G Qm f sz t F
  | 0 => fun _ _ _ _ _ _ _ _ _ _ _ _ _ hF => absurd hF (Nat.not_lt_zero _)
  | F + 1 => fun d T B c s o z hd ho hs hzs hT hB hF => by
    refine ⟨fun hc => cp_0 (cp ht hz hby F) ht hz hby hc hd ho hs hzs hT hB hF, fun e => ?_, fun e => ?_, fun c' i st0 e hc' hi => ?_⟩
    · subst e
      have e4 : wdn 4 = 5 := by decide
      have g4 : hgt 4 = 3 := by decide
      exact cp_4 (cp ht hz hby F) ht hz hby (by omega) ho hs hzs hT hB (by omega)
    · subst e
      have e5 : wdn 5 = 0 := by decide
      have g5 : hgt 5 = 0 := by decide
      exact cp_5 (cp ht hz hby F) ht hz hby (by omega) ho hs hzs hT hB (by omega)
    · subst e
      have h6 := wdn_6 hc'
      exact cp_6 (cp ht hz hby F) ht hz hby hc' (by omega) ho hs hzs hT hB (by omega) hi
end
