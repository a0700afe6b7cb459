/-! WHOLE RUNS (wip/whole/gen9.py) -/
section SNW
variable {g : mG} {p : Program} {l : Launch} {e : Env} {R : Room} {s : State} {m : MethodId} {args : Array Value} {below : List Frame} {meth : Method} {c : Code} {y d M0 len pc : Nat} {L st : List Value} {M : mM} {Q : State → Prop} {r : mR}
theorem cut_at {n b : Nat} (h : st[n]? = some (.ref b)) : ∃ As rest, As.length = n ∧ st = As.reverse ++ .ref b :: rest ∧ (st.take (n + 1)).reverse = .ref b :: As ∧ st.drop (n + 1) = rest := by
  have hn : n < st.length := (List.getElem?_eq_some_iff.mp h).1
  have h1 : st[n] = .ref b := by
    have := List.getElem?_eq_getElem hn
    rw [this] at h
    exact Option.some.inj h
  refine ⟨(st.take n).reverse, st.drop (n + 1), by simp; omega, ?_, ?_, rfl⟩
  · rw [List.reverse_reverse, ← h1, ← List.drop_eq_getElem_cons hn, List.take_append_drop]
  · rw [List.take_succ, h]
    simp
theorem iv_v {i z : Nat} {vs rest : List Value} (h : minv y i st 0 M = some (.inr (.inl (z, vs, rest)))) : ∃ (na b : Nat) (As : List Value), (lk (mow y) i = (4, z, na) ∨ lk (mow y) i = (15, z, na)) ∧ mrecv z b M = true ∧ As.length = na ∧ st = As.reverse ++ .ref b :: rest ∧ vs = .ref b :: As ∧ rest.length ≤ 4 := by
  unfold minv at h
  generalize hlk : lk (mow y) i = q at h
  obtain ⟨k, z', na⟩ := q
  dsimp only at h
  rw [if_pos rfl] at h
  obtain ⟨hk, h⟩ := gt_some h
  split at h
  · rename_i b hb
    obtain ⟨hr, h⟩ := gt_some h
    unfold mcall at h
    obtain ⟨⟨h1, h2⟩, h⟩ := gt_some h
    obtain ⟨As, rest', e1, e2, e3, e4⟩ := cut_at hb
    simp only [if_true, Option.some.injEq, Sum.inr.injEq, Sum.inl.injEq, Prod.mk.injEq] at h
    obtain ⟨rfl, rfl, rfl⟩ := h
    refine ⟨na, b, As, ?_, hr, e1, by rw [e4]; exact e2, e3, h2⟩
    rcases hk with hk | hk
    · subst hk; exact Or.inl rfl
    · subst hk; exact Or.inr rfl
  · cases h
theorem iv_s {i z : Nat} {vs rest : List Value} (h : minv y i st 1 M = some (.inr (.inl (z, vs, rest)))) : ∃ (na : Nat), lk (mow y) i = (5, z, na) ∧ vs.length = na ∧ st = vs.reverse ++ rest ∧ rest.length ≤ 4 := by
  unfold minv at h
  generalize hlk : lk (mow y) i = q at h
  obtain ⟨k, z', na⟩ := q
  dsimp only at h
  rw [if_neg (by decide), if_pos rfl] at h
  obtain ⟨hk, h⟩ := gt_some h
  unfold mcall at h
  obtain ⟨⟨h1, h2⟩, h⟩ := gt_some h
  simp only [Option.some.injEq, Sum.inr.injEq, Sum.inl.injEq, Prod.mk.injEq] at h
  obtain ⟨rfl, rfl, rfl⟩ := h
  subst hk
  simp only [Bool.false_eq_true, if_false] at h1 h2 ⊢
  exact ⟨na, rfl, by simp; omega, by simp, h2⟩
theorem iv_i {i z : Nat} {vs rest : List Value} (h : minv y i st 2 M = some (.inr (.inl (z, vs, rest)))) : ∃ (na b : Nat) (As : List Value), (lk (mow y) i = (6, z, na) ∨ lk (mow y) i = (7, z, na)) ∧ b < 1000 ∧ As.length = na ∧ st = As.reverse ++ .ref b :: rest ∧ vs = .ref b :: As ∧ rest.length ≤ 4 := by
  unfold minv at h
  generalize hlk : lk (mow y) i = q at h
  obtain ⟨k, z', na⟩ := q
  dsimp only at h
  rw [if_neg (by decide), if_neg (by decide)] at h
  obtain ⟨hk, h⟩ := gt_some h
  split at h
  · rename_i b hb
    obtain ⟨hr, h⟩ := gt_some h
    unfold mcall at h
    obtain ⟨⟨h1, h2⟩, h⟩ := gt_some h
    obtain ⟨As, rest', e1, e2, e3, e4⟩ := cut_at hb
    simp only [if_true, Option.some.injEq, Sum.inr.injEq, Sum.inl.injEq, Prod.mk.injEq] at h
    obtain ⟨rfl, rfl, rfl⟩ := h
    refine ⟨na, b, As, ?_, hr, e1, by rw [e4]; exact e2, e3, h2⟩
    rcases hk with hk | hk
    · subst hk; exact Or.inl rfl
    · subst hk; exact Or.inr rfl
  · cases h
theorem ws_good {z : Nat} (h0 : 0 < z) (hz : z < 212) : GoodIn WS (wsm z) := by
  intro w hw
  have h1 : w ∈ WS := by
    rcases List.mem_cons.mp hw with h | h
    · subst h; exact cwd_in h0 hz
    · exact h
  exact ⟨h1, good_of_word (List.mem_filter.mp h1).2⟩
theorem cb_of {z na d' i : Nat} {M2 : mM} (C : cx g p R s m meth c y d args) (h0 : 0 < z) (hz : z < 212) (hn : znm z na = true) (hd : d = d' + 1) (hini : (Cond.initialized (myn z).cls).before args s = true) (hl : (Cond.methodLink (cn (mow y)) i (myn z)).before args s = true) :
    CallB R s args (cn (mow y)) i (myn z) (bt z) (mml z) (mrt z) (wsm z) (rmm d' (M2.1 - M.1)) (M2.1 - M.1) (1200 * (M2.1 - M.1)) na := by
  obtain ⟨hx, hb, hrt0, hml, hown, hts, hlk0, hini0, hK, hF, hfr, hlo, hbs, h9⟩ := C
  obtain ⟨z1, z2, z3, z4⟩ := z_ok z hz h0
  subst hd
  exact callB_of na hts (ws_good h0 hz) rfl rfl rfl hini hl ⟨z2.1, z2.2, by simpa [znm] using hn⟩ ⟨hfr, by show 8 + (mml z + 11) + 64 * (d' + 1) ≤ R.locals; omega⟩
theorem sn_callV {i z d' : Nat} {vs rest : List Value} {v2 : Option Value} {M2 : mM} (C : cx g p R s m meth c y d args) (hz : s.heap.size = gB g + M0) (h0 : M0 ≤ M.1) (h1 : M.1 ≤ M2.1) (hr1 : M2.1 - M0 ≤ R.cells) (hr2 : 1200 * (M2.1 - M0) ≤ R.slots) (hd : decode (bt y) pc = .ok (.invokevirtual i, 3)) (hs : minv y i st 0 M = some (.inr (.inl (z, vs, rest)))) (hdd : d = d' + 1)
    (hM : 0 < z → z < 212 → Met l (myn z) (wsm z) (rmm d' (M2.1 - M.1)) (Pq g vs M) (Qq g v2 M2) (M2.1 - M.1) (1200 * (M2.1 - M.1)) (Ab g)) (k : Kn g p l e R s m args below meth c y M0 Q (pc + 3, L, v2.toList ++ rest, M2)) : Kn g p l e R s m args below meth c y M0 Q (pc, L, st, M) := by
  obtain ⟨na, b, As, hlk, hrv, hlen, hst, rfl, hrest⟩ := iv_v hs
  have C' := C
  obtain ⟨hx, hb, hrt0, hml, hown, hts, hlk0, hini0, hK, hF, hfr, hlo, hbs, h9⟩ := C'
  have hfacts : 0 < z ∧ z < 212 ∧ znm z na = true ∧ (mow z < 8 ∨ mow z = 8) ∧ (∀ w ∈ ([.methodLink (cn (mow y)) i (myn z), .instanceMethod (myn z), .selects (myn z).cls (myn z) (myn z), .initialized (myn z).cls] : List Cond), w ∈ WS) := by
    rcases hlk with hlk | hlk
    · have ht := lk_t hlk (by simp)
      have hw := lk_w hlk (by simp)
      simp only [lkt, Bool.and_eq_true, decide_eq_true_eq] at ht
      exact ⟨ht.1.1.1, ht.1.1.2, ht.2, Or.inl ht.1.2, hw⟩
    · have ht := lk_t hlk (by simp)
      have hw := lk_w hlk (by simp)
      simp only [lkt, Bool.and_eq_true, decide_eq_true_eq] at ht
      exact ⟨ht.1.1.1, ht.1.1.2, ht.2, Or.inr ht.1.2, hw⟩
  obtain ⟨z0, zN, zn, zc, hw⟩ := hfacts
  obtain ⟨z1, z2, z3, z4⟩ := z_ok z zN z0
  have cb := cb_of (i := i) (M2 := M2) (M := M) C z0 zN zn hdd (hts _ (hw _ (by simp))) (hts _ (hw _ (by simp)))
  have hMet := hM z0 zN
  have hcl : ∀ {H : Heap} {locs : List Loc}, rp g M H → va_S (Ab g) s.heap H locs → ∃ a : Nat, rv g (.ref b) = .ref a ∧ ∃ cell : Cell, H[a]? = some cell ∧ cell.vm.isStatics = false ∧ s.vm.findClass (myn z).cls = some cell.cls := by
    intro H locs a1 a2
    unfold mrecv at hrv
    split at hrv
    · rename_i a fs hM2
      simp only [decide_eq_true_eq] at hrv
      subst hrv
      rcases zc with zc | zc
      · have hq : b < M.1 := rp_obj a1 hM2 zc
        have he := wo_get (g := g) hq
        rw [hM2] at he
        refine ⟨gB g + b, rv_ref (Nat.lt_of_lt_of_le hq a1.2.2.1), ?_⟩
        have := va_recv hK a1.2.2.2 (cl_at zc) he
        rw [← z3]
        exact this
      · have hq : ¬ b < M.1 := fun hq => by
          have := a1.1 b hq
          rw [hM2] at this
          exact absurd this (by simp [wk, zc])
        have hro := a1.2.1 b (Nat.le_of_not_lt hq)
        rw [hM2] at hro
        rcases ro_obj hro.symm with ⟨-, e1, e2, -⟩ | ⟨e1, -⟩
        · refine ⟨gO g (3 + (b - 1003)), rv_o2 (by omega) (by omega) (by omega), ?_⟩
          have h3 := vk_recv hF.2.2.2.2.2.2.2.1 (i := b - 1003) (by omega) a2
          rw [← z3, zc]
          exact h3
        · omega
    · cases hrv
  refine sn_ran (a := #[]) h0 h1 (fun H locs ls a1 a2 a3 a4 hsz => ?_) hz k
  obtain ⟨a, ha, hcell⟩ := hcl a1 a2
  have hls : ls.size = mml y := by rw [a3.1]; exact a4
  have hpre : PreV s H (myn z).cls a (Pq g (.ref b :: As) M) (As.map (rv g)) := ⟨pq_blind, hcell, fun U hU hW => by
    have := pq_at (vs := .ref b :: As) hK hF a1 a2 hsz hU hW
    rw [List.map_cons, ha] at this
    exact this⟩
  exact va_runV (C := (myn z).cls) (b := a) (As := As.map (rv g)) (rest := rest.map (rv g)) (n := na) ⟨hx, hb, hml, hown, hts⟩ hMet ⟨cb, hts _ (hw _ (by simp)), hts _ (hw _ (by simp))⟩ hpre rfl (by simpa using hlen) hls (by show st.map (rv g) = _; rw [hst, List.map_append, List.map_cons, ha, List.map_reverse]) (lv_room (sum8 hrest)) hd ⟨by omega, by omega⟩
theorem sn_callS {i z d' : Nat} {vs rest : List Value} {v2 : Option Value} {M2 : mM} (C : cx g p R s m meth c y d args) (hz : s.heap.size = gB g + M0) (h0 : M0 ≤ M.1) (h1 : M.1 ≤ M2.1) (hr1 : M2.1 - M0 ≤ R.cells) (hr2 : 1200 * (M2.1 - M0) ≤ R.slots) (hd : decode (bt y) pc = .ok (.invokestatic i, 3)) (hs : minv y i st 1 M = some (.inr (.inl (z, vs, rest)))) (hdd : d = d' + 1)
    (hM : 0 < z → z < 212 → Met l (myn z) (wsm z) (rmm d' (M2.1 - M.1)) (Pq g vs M) (Qq g v2 M2) (M2.1 - M.1) (1200 * (M2.1 - M.1)) (Ab g)) (k : Kn g p l e R s m args below meth c y M0 Q (pc + 3, L, v2.toList ++ rest, M2)) : Kn g p l e R s m args below meth c y M0 Q (pc, L, st, M) := by
  obtain ⟨na, hlk, hlen, hst, hrest⟩ := iv_s hs
  have C' := C
  obtain ⟨hx, hb, hrt0, hml, hown, hts, hlk0, hini0, hK, hF, hfr, hlo, hbs, h9⟩ := C'
  have ht := lk_t hlk (by simp)
  have hw := lk_w hlk (by simp)
  simp only [lkt, Bool.and_eq_true, decide_eq_true_eq] at ht
  obtain ⟨⟨z0, zN⟩, zn⟩ := ht
  have cb := cb_of (i := i) (M2 := M2) (M := M) C z0 zN zn hdd (hts _ (hw _ (by simp [lw]))) (hts _ (hw _ (by simp [lw])))
  have hMet := hM z0 zN
  refine sn_ran (a := #[]) h0 h1 (fun H locs ls a1 a2 a3 a4 hsz => ?_) hz k
  have hls : ls.size = mml y := by rw [a3.1]; exact a4
  exact va_runS (As := vs.map (rv g)) (rest := rest.map (rv g)) (n := na) ⟨hx, hb, hml, hown, hts⟩ hMet ⟨cb, hts _ (hw _ (by simp [lw]))⟩ ⟨pq_blind, fun U hU hW => pq_at hK hF a1 a2 hsz hU hW⟩ rfl (by simpa using hlen) hls (by show st.map (rv g) = _; rw [hst, List.map_append, List.map_reverse]) (lv_room (sum8 hrest)) hd ⟨by omega, by omega⟩
theorem sn_callI {i z d' : Nat} {vs rest : List Value} {v2 : Option Value} {M2 : mM} (C : cx g p R s m meth c y d args) (hz : s.heap.size = gB g + M0) (h0 : M0 ≤ M.1) (h1 : M.1 ≤ M2.1) (hr1 : M2.1 - M0 ≤ R.cells) (hr2 : 1200 * (M2.1 - M0) ≤ R.slots) (hd : decode (bt y) pc = .ok (.invokespecial i, 3)) (hs : minv y i st 2 M = some (.inr (.inl (z, vs, rest)))) (hdd : d = d' + 1)
    (hM : 0 < z → z < 212 → Met l (myn z) (wsm z) (rmm d' (M2.1 - M.1)) (Pq g vs M) (Qq g v2 M2) (M2.1 - M.1) (1200 * (M2.1 - M.1)) (Ab g)) (k : Kn g p l e R s m args below meth c y M0 Q (pc + 3, L, v2.toList ++ rest, M2)) : Kn g p l e R s m args below meth c y M0 Q (pc, L, st, M) := by
  obtain ⟨na, b, As, hlk, hbk, hlen, hst, rfl, hrest⟩ := iv_i hs
  have C' := C
  obtain ⟨hx, hb, hrt0, hml, hown, hts, hlk0, hini0, hK, hF, hfr, hlo, hbs, h9⟩ := C'
  have hpre : ∀ {H : Heap} {locs : List Loc}, rp g M H → va_S (Ab g) s.heap H locs → H.size = gB g + M.1 → PreS s H (Pq g (.ref b :: As) M) (.ref (gB g + b) :: As.map (rv g)) := fun a1 a2 hsz => ⟨pq_blind, fun U hU hW => by
    have := pq_at (vs := .ref b :: As) hK hF a1 a2 hsz hU hW
    rw [List.map_cons, rv_ref hbk] at this
    exact this⟩
  have hstk : ∀ ls, (F0 m pc ls (st.map (rv g))).stack = (As.map (rv g)).reverse ++ .ref (gB g + b) :: rest.map (rv g) := fun ls => by
    show st.map (rv g) = _
    rw [hst, List.map_append, List.map_cons, rv_ref hbk, List.map_reverse]
  rcases hlk with hlk | hlk
  · have ht := lk_t hlk (by simp)
    have hw := lk_w hlk (by simp)
    simp only [lkt, Bool.and_eq_true, decide_eq_true_eq] at ht
    obtain ⟨⟨⟨⟨z0, zN⟩, zn⟩, zi⟩, zr⟩ := ht
    have cb := cb_of (i := i) (M2 := M2) (M := M) C z0 zN zn hdd (hts _ (hw _ (by simp [lw]))) (hts _ (hw _ (by simp [lw])))
    have hMet := hM z0 zN
    rw [zr] at cb
    refine sn_ran (a := #[]) h0 h1 (fun H locs ls a1 a2 a3 a4 hsz => ?_) hz k
    have hls : ls.size = mml y := by rw [a3.1]; exact a4
    exact va_runI (As := As.map (rv g)) (rest := rest.map (rv g)) (n := na) ⟨hx, hb, hml, hown, hts⟩ hMet ⟨cb, zi, hts _ (hw _ (by simp [lw]))⟩ (hpre a1 a2 hsz) rfl (by simpa using hlen) hls (hstk ls) (lv_room (sum8 hrest)) hd ⟨by omega, by omega⟩
  · have ht := lk_t hlk (by simp)
    have hw := lk_w hlk (by simp)
    simp only [lkt, Bool.and_eq_true, Bool.or_eq_true, decide_eq_true_eq] at ht
    obtain ⟨⟨⟨⟨⟨z0, zN⟩, zn⟩, zi⟩, zr⟩, zz⟩ := ht
    obtain ⟨z1, z2, z3, z4⟩ := z_ok z zN z0
    obtain ⟨n1, n2, n3, n4, n5⟩ := hF.2.2.2.2.2.2.2.2.2.2
    have hnest : va_Nw (.methodLinkNest (cn (mow y)) i (myn z) "ThrownBack") s := by
      rcases zz with (((⟨e1, e2, e3⟩ | ⟨e1, e2, e3⟩) | ⟨e1, e2, e3⟩) | ⟨e1, e2, e3⟩) | ⟨e1, e2, e3⟩ <;> subst e2 <;> rw [e1, e3]
      · exact n1
      · exact n2
      · exact n3
      · exact n4
      · exact n5
    have hMet := hM z0 zN
    subst hdd
    have cb := va_cnB (R := R) (rm := rmm d' (M2.1 - M.1)) (maxL := mml z) (ret := mrt z) (bytes := bt z) na hts (ws_good z0 zN) rfl rfl rfl hnest (hts _ (hw _ (by simp [lw]))) ⟨z2.1, z2.2, by simpa [znm] using zn⟩ ⟨hfr, by show 8 + (mml z + 11) + 64 * (d' + 1) ≤ R.locals; omega⟩
    rw [zr] at cb
    refine sn_ran (a := #[]) h0 h1 (fun H locs ls a1 a2 a3 a4 hsz => ?_) hz k
    have hls : ls.size = mml y := by rw [a3.1]; exact a4
    exact va_runIN (As := As.map (rv g)) (rest := rest.map (rv g)) (n := na) ⟨hx, hb, hml, hown, hts⟩ hMet ⟨cb, zi, hts _ (hw _ (by simp [lw]))⟩ (hpre a1 a2 hsz) rfl (by simpa using hlen) hls (hstk ls) (lv_room (sum8 hrest)) hd ⟨by omega, by omega⟩
set_option maxHeartbeats 4000000 in
theorem stp_ret {ins : Instr} {v : Option Value} (h : stp y ins len pc L st M = some (.inr (.inr v))) : len = 1 ∧ ((ins = .ireturn ∧ ∃ x ty, st = [.int x] ∧ mrt y = some ty ∧ narrow ty (.int x) = .int x ∧ v = some (.int x)) ∨ (ins = .lreturn ∧ ∃ x, st = [.long x] ∧ mrt y = some .long ∧ v = some (.long x)) ∨ (ins = .return_ ∧ st = [] ∧ mrt y = none ∧ v = none)) := by
  cases ins
  case ireturn =>
    simp only [stp] at h
    obtain ⟨h1, h⟩ := gt_some h
    split at h
    · obtain ⟨h2, h⟩ := gt_some h
      simp only [Option.some.injEq, Sum.inr.injEq] at h
      exact ⟨h1, Or.inl ⟨rfl, _, _, rfl, by assumption, h2, h.symm⟩⟩
    · cases h
  case lreturn =>
    simp only [stp] at h
    obtain ⟨h1, h⟩ := gt_some h
    split at h
    · simp only [Option.some.injEq, Sum.inr.injEq] at h
      exact ⟨h1, Or.inr (Or.inl ⟨rfl, _, rfl, by assumption, h.symm⟩)⟩
    · cases h
  case return_ =>
    simp only [stp] at h
    obtain ⟨h1, h⟩ := gt_some h
    split at h
    · simp only [Option.some.injEq, Sum.inr.injEq] at h
      exact ⟨h1, Or.inr (Or.inr ⟨rfl, rfl, by assumption, h.symm⟩)⟩
    · cases h
  all_goals
    exfalso
    simp only [stp, mldI, mldL, mldA, mstI, mstL, mstA, mbin, mbinL, mun, mjmp, mnx, msw, mget, mputf, mald, mast, mald_q, mast_q, mcopy, minv, mcall] at h
    repeat' (split at h)
    all_goals first | cases h | simp_all
set_option maxHeartbeats 4000000 in
theorem stp_mono {ins : Instr} (h : stp y ins len pc L st M = some (.inl r)) : M.1 ≤ r.2.2.2.1 := by
  cases ins
  all_goals
    simp only [stp, mldI, mldL, mldA, mstI, mstL, mstA, mbin, mbinL, mun, mjmp, mnx, msw, mget, mputf, mald, mast, mald_q, mast_q, mcopy, minv, mcall] at h
    repeat' (split at h)
    all_goals first | (cases h; done) | (simp only [Option.some.injEq, Sum.inl.injEq, reduceCtorEq] at h; subst h; first | exact Nat.le_refl _ | exact Nat.le_succ _)
set_option maxHeartbeats 4000000 in
theorem stp_call {ins : Instr} {x : Nat × List Value × List Value} (h : stp y ins len pc L st M = some (.inr (.inl x))) : len = 3 ∧ ((∃ i, ins = .invokevirtual i ∧ minv y i st 0 M = some (.inr (.inl x))) ∨ (∃ i, ins = .invokestatic i ∧ minv y i st 1 M = some (.inr (.inl x))) ∨ (∃ i, ins = .invokespecial i ∧ minv y i st 2 M = some (.inr (.inl x)))) := by
  cases ins
  case invokevirtual i =>
    simp only [stp] at h
    obtain ⟨h1, h⟩ := gt_some h
    exact ⟨h1, Or.inl ⟨i, rfl, h⟩⟩
  case invokestatic i =>
    simp only [stp] at h
    obtain ⟨h1, h⟩ := gt_some h
    split at h
    · exfalso
      simp only [mcopy, mnx] at h
      repeat' (split at h)
      all_goals cases h
    · exact ⟨h1, Or.inr (Or.inl ⟨i, rfl, h⟩)⟩
  case invokespecial i =>
    simp only [stp] at h
    obtain ⟨h1, h⟩ := gt_some h
    split at h
    · exfalso
      simp only [mnx] at h
      repeat' (split at h)
      all_goals cases h
    · exact ⟨h1, Or.inr (Or.inr ⟨i, rfl, h⟩)⟩
  all_goals
    exfalso
    simp only [stp, mldI, mldL, mldA, mstI, mstL, mstA, mbin, mbinL, mun, mjmp, mnx, msw, mget, mputf, mald, mast, mald_q, mast_q, mcopy, minv, mcall] at h
    repeat' (split at h)
    all_goals cases h
theorem sn_ret {ins : Instr} {v : Option Value} (C : cx g p R s m meth c y d args) (hd : decode (bt y) pc = .ok (ins, len)) (hs : stp y ins len pc L st M = some (.inr (.inr v))) : Kn g p l e R s m args below meth c y M0 (MQ below (Qq g v M) args s (M.1 - M0) (1200 * (M.1 - M0)) (Ab g)) (pc, L, st, M) := by
  obtain ⟨hx, hb, hrt0, hml, hown, hts, hlk0, hini, hK, hF, hfr, hlo, hbs, h9⟩ := C
  obtain ⟨rfl, h⟩ := stp_ret hs
  intro H locs ls a1 a2 a3 a4
  have hq : ∀ t : State, t.heap = H → Qq g v M args s (.returned (v.map (rv g))) t := fun t ht => ⟨rfl, by rw [ht]; exact a1, a2.F ht⟩
  rcases h with ⟨rfl, x, ty, rfl, e1, e2, rfl⟩ | ⟨rfl, x, rfl, e1, rfl⟩ | ⟨rfl, rfl, e1, rfl⟩
  · exact W.zret hx hb (hrt0.trans e1) e2 (fun t ht _ => hq t ht) a2.2.2 hd hlk0
  · exact W.lret hx hb (hrt0.trans e1) (fun t ht _ => hq t ht) a2.2.2 hd hlk0
  · exact W.vret hx hb (hrt0.trans e1) (fun t ht _ => hq t ht) a2.2.2 hd hlk0
theorem snd_step {ins : Instr} (C : cx g p R s m meth c y d args) (hz : s.heap.size = gB g + M0) (h0 : M0 ≤ M.1) (hr : r.2.2.2.1 - M0 ≤ R.cells ∧ 1200 * (r.2.2.2.1 - M0) ≤ R.slots) (hd : decode (bt y) pc = .ok (ins, len)) (hs : stp y ins len pc L st M = some (.inl r)) (k : Kn g p l e R s m args below meth c y M0 Q r) : Kn g p l e R s m args below meth c y M0 Q (pc, L, st, M) := by
  cases ins
  case iload => exact sn_iload C hd hs k
  case iload_n => exact sn_iload_n C hd hs k
  case lload => exact sn_lload C hd hs k
  case lload_n => exact sn_lload_n C hd hs k
  case aload => exact sn_aload C hd hs k
  case aload_n => exact sn_aload_n C hd hs k
  case istore => exact sn_istore C hd hs k
  case istore_n => exact sn_istore_n C hd hs k
  case lstore => exact sn_lstore C hd hs k
  case lstore_n => exact sn_lstore_n C hd hs k
  case astore => exact sn_astore C hd hs k
  case astore_n => exact sn_astore_n C hd hs k
  case iconst => exact sn_iconst C hd hs k
  case bipush => exact sn_bipush C hd hs k
  case sipush => exact sn_sipush C hd hs k
  case lconst => exact sn_lconst C hd hs k
  case iadd => exact sn_iadd C hd hs k
  case isub => exact sn_isub C hd hs k
  case imul => exact sn_imul C hd hs k
  case iand => exact sn_iand C hd hs k
  case ior => exact sn_ior C hd hs k
  case ishl => exact sn_ishl C hd hs k
  case ishr => exact sn_ishr C hd hs k
  case idiv => exact sn_idiv C hd hs k
  case irem => exact sn_irem C hd hs k
  case ladd => exact sn_ladd C hd hs k
  case lmul => exact sn_lmul C hd hs k
  case ldiv => exact sn_ldiv C hd hs k
  case lrem => exact sn_lrem C hd hs k
  case ineg => exact sn_ineg C hd hs k
  case i2l => exact sn_i2l C hd hs k
  case i2b => exact sn_i2b C hd hs k
  case i2s => exact sn_i2s C hd hs k
  case i2c => exact sn_i2c C hd hs k
  case l2i => exact sn_l2i C hd hs k
  case lcmp => exact sn_lcmp C hd hs k
  case dup => exact sn_dup C hd hs k
  case pop => exact sn_pop C hd hs k
  case dup2 => exact sn_dup2 C hd hs k
  case iinc => exact sn_iinc C hd hs k
  case ifCond => exact sn_ifCond C hd hs k
  case if_icmp => exact sn_if_icmp C hd hs k
  case goto => exact sn_goto C hd hs k
  case tableswitch => exact sn_tableswitch C hd hs k
  case lookupswitch => exact sn_lookupswitch C hd hs k
  case ldc => exact sn_ldc C hd hs k
  case ldc_w => exact sn_ldc_w C hd hs k
  case ldc2_w => exact sn_ldc2_w C hd hs k
  case getfield => exact sn_getfield C hd hs k
  case putfield => exact sn_putfield C hd hs k
  case getstatic => exact sn_getstatic C hd hs k
  case iaload => exact sn_iaload C hd hs k
  case baload => exact sn_baload C hd hs k
  case iastore => exact sn_iastore C hd hs k
  case aaload => exact sn_aaload C hd hs k
  case aastore => exact sn_aastore C hd hs k
  case arraylength => exact sn_arraylength C hd hs k
  case invokestatic => exact sn_invokestatic C hd hs k
  case invokespecial => exact sn_invokespecial C hd hs k
  case newarray => exact sn_newarray C hz h0 hr hd hs k
  case anewarray => exact sn_anewarray C hz h0 hr hd hs k
  case new => exact sn_new C hz h0 hr hd hs k
  case invokevirtual => exact absurd (sn_invokevirtual hs) id
  case ireturn =>
    simp only [stp] at hs
    obtain ⟨-, hs⟩ := gt_some hs
    split at hs
    · first | (cases hs; done) | (obtain ⟨-, hs⟩ := gt_some hs; cases hs)
    · cases hs
  case lreturn =>
    simp only [stp] at hs
    obtain ⟨-, hs⟩ := gt_some hs
    split at hs
    · first | (cases hs; done) | (obtain ⟨-, hs⟩ := gt_some hs; cases hs)
    · cases hs
  case return_ =>
    simp only [stp] at hs
    obtain ⟨-, hs⟩ := gt_some hs
    split at hs
    · first | (cases hs; done) | (obtain ⟨-, hs⟩ := gt_some hs; cases hs)
    · cases hs
  all_goals (simp only [stp] at hs; cases hs)
set_option maxHeartbeats 4000000 in
/-- THE SMALL MACHINE'S RUNS ARE THE MACHINE'S -/
theorem snd_run (g : mG) (l : Launch) (h9 : g9 g = .null ∨ ∃ a, g9 g = .ref a) : ∀ (n d y pc : Nat) (L st : List Value) (M : mM) (v : Option Value) (M2 : mM), run d n y pc L st M = some (v, M2) → M.1 ≤ M2.1 ∧
    ∀ {p : Program} {e : Env} {R : Room} {s : State} {m : MethodId} {args : Array Value} {below : List Frame} {meth : Method} {c : Code} {M0 : Nat} {Q : State → Prop}, cx g p R s m meth c y d args → s.heap.size = gB g + M0 → M0 ≤ M.1 → M2.1 - M0 ≤ R.cells → 1200 * (M2.1 - M0) ≤ R.slots →
      (∀ (pc' len : Nat) (ins : Instr) (L' st' : List Value), decode (bt y) pc' = .ok (ins, len) → stp y ins len pc' L' st' M2 = some (.inr (.inr v)) → Kn g p l e R s m args below meth c y M0 Q (pc', L', st', M2)) →
      Kn g p l e R s m args below meth c y M0 Q (pc, L, st, M) := by
  intro n
  induction n with
  | zero => intro d y pc L st M v M2 h; cases h
  | succ n ih =>
    intro d y pc L st M v M2 h
    rw [run] at h
    cases hdc : decode (bt y) pc with
    | error er => rw [hdc] at h; cases h
    | ok il =>
      obtain ⟨ins, len⟩ := il
      rw [hdc] at h
      dsimp only at h
      cases hst : stp y ins len pc L st M with
      | none => rw [hst] at h; cases h
      | some q =>
        rw [hst] at h
        match q, h, hst with
        | .inl (pc', L', st', M'), h, hst =>
          dsimp only at h
          obtain ⟨h1, h2⟩ := ih _ _ _ _ _ _ _ _ h
          have h3 := stp_mono hst
          dsimp only at h3
          refine ⟨Nat.le_trans h3 h1, ?_⟩
          intro p e R s m args below meth c M0 Q C hz h0 hr1 hr2 hfin
          exact snd_step C hz h0 ⟨by dsimp only; omega, by dsimp only; omega⟩ hdc hst (h2 C hz (by omega) hr1 hr2 hfin)
        | .inr (.inr v'), h, hst =>
          dsimp only at h
          simp only [Option.some.injEq, Prod.mk.injEq] at h
          obtain ⟨rfl, rfl⟩ := h
          refine ⟨Nat.le_refl _, ?_⟩
          intro p e R s m args below meth c M0 Q C hz h0 hr1 hr2 hfin
          exact hfin _ _ _ _ _ hdc hst
        | .inr (.inl (z, vs, rest)), h, hst =>
          dsimp only at h
          match d, h with
          | 0, h => cases h
          | d' + 1, h =>
            dsimp only at h
            obtain ⟨hvs, h⟩ := gt_some h
            cases hcal : run d' n z 0 (ment z vs) [] M with
            | none => rw [hcal] at h; cases h
            | some w =>
              obtain ⟨v2, M1⟩ := w
              rw [hcal] at h
              dsimp only at h
              obtain ⟨g1, g2⟩ := ih _ _ _ _ _ _ _ _ hcal
              obtain ⟨h1, h2⟩ := ih _ _ _ _ _ _ _ _ h
              refine ⟨Nat.le_trans g1 h1, ?_⟩
              intro p e R s m args below meth c M0 Q C hz h0 hr1 hr2 hfin
              have k := h2 C hz (by omega) hr1 hr2 hfin
              have hM : 0 < z → z < 212 → Met l (myn z) (wsm z) (rmm d' (M1.1 - M.1)) (Pq g vs M) (Qq g v2 M1) (M1.1 - M.1) (1200 * (M1.1 - M.1)) (Ab g) := fun z0 zN =>
                met_of l z0 zN h9 hvs (fun C' hz' hr1' hr2' => g2 C' hz' (Nat.le_refl _) hr1' hr2' (fun pc' len' ins' L' st' hd' hs' => sn_ret C' hd' hs'))
              obtain ⟨rfl, hc⟩ := stp_call hst
              rcases hc with ⟨i, rfl, hi⟩ | ⟨i, rfl, hi⟩ | ⟨i, rfl, hi⟩
              · exact sn_callV C hz h0 g1 (by omega) (by omega) hdc hi rfl hM k
              · exact sn_callS C hz h0 g1 (by omega) (by omega) hdc hi rfl hM k
              · exact sn_callI C hz h0 g1 (by omega) (by omega) hdc hi rfl hM k
end SNW
