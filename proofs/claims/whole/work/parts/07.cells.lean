/-! STEPS ON CELLS (wip/whole/gen7.py) -/
def znm (z n : Nat) : Bool := decide ((parseMethodDescriptor (myn z).desc).map (fun d => d.parameters.length) = some n)
/-- what the table of links is like -/
def lkt (c : Nat) (e : lE) : Bool := match e with
  | (_, 1, a, b) => decide (a < 8) && decide (b < nNN a)
  | (_, 16, a, _) => decide (a < 2)
  | (_, 3, a, _) => decide (a < 4)
  | (_, 4, z, n) => decide (0 < z) && decide (z < 212) && decide (mow z < 8) && znm z n
  | (_, 15, z, n) => decide (0 < z) && decide (z < 212) && decide (mow z = 8) && znm z n
  | (_, 5, z, n) => decide (0 < z) && decide (z < 212) && znm z n
  | (_, 6, z, n) => decide (0 < z) && decide (z < 212) && znm z n && decide ((myn z).name = "<init>") && decide (mrt z = none)
  | (i, 7, z, n) => decide (0 < z) && decide (z < 212) && znm z n && decide ((myn z).name = "<init>") && decide (mrt z = none) &&
    (decide (c = 4 ∧ i = 36 ∧ myn z = ⟨"ThrownBack$Owner", "<init>", "()V"⟩) || decide (c = 6 ∧ i = 24 ∧ myn z = ⟨"ThrownBack$Reader", "<init>", "()V"⟩) || decide (c = 6 ∧ i = 43 ∧ myn z = ⟨"ThrownBack$Lots", "<init>", "()V"⟩) || decide (c = 6 ∧ i = 48 ∧ myn z = ⟨"ThrownBack$Law", "<init>", "()V"⟩) || decide (c = 6 ∧ i = 49 ∧ myn z = ⟨"ThrownBack$Sheet", "<init>", "()V"⟩))
  | (_, 10, a, b) => decide (a < 8) && decide (b = nNN a)
  | (_, 11, a, _) => decide (a = 0) || decide (a = 2) || decide (a = 5)
  | (i, 14, a, _) => decide (c = 6 ∧ i = 50 ∧ a = 1003) || decide (c = 3 ∧ i = 95 ∧ a = 1004) || decide (c = 3 ∧ i = 109 ∧ a = 1005)
  | _ => true
theorem lkt_all : ∀ c, c < 13 → (lkl c).all (lkt c) = true := by decide +kernel
theorem lk_mem {c i : Nat} (h : (lk c i).1 ≠ 0) : c < 13 ∧ (i, lk c i) ∈ lkl c := by
  unfold lk at h ⊢
  cases hf : (lkl c).find? (fun e => e.1 == i) with
  | none => rw [hf] at h; exact absurd rfl h
  | some e =>
    have h1 := List.find?_some hf
    simp only [beq_iff_eq] at h1
    have h2 := List.mem_of_find?_eq_some hf
    refine ⟨?_, by rw [← h1]; exact h2⟩
    by_cases hc : c < 13
    · exact hc
    · have h3 : lkl c = [] := by
        match c, hc with
        | c + 13, _ => rfl
        | 0, hc | 1, hc | 2, hc | 3, hc | 4, hc | 5, hc | 6, hc | 7, hc | 8, hc | 9, hc | 10, hc | 11, hc | 12, hc => exact absurd (by decide) hc
      rw [h3] at h2
      cases h2
theorem lk_t {c i : Nat} {x : Nat × Nat × Nat} (hx : lk c i = x) (h : x.1 ≠ 0) : lkt c (i, x) = true := by
  subst hx
  obtain ⟨h1, h2⟩ := lk_mem h
  exact List.all_eq_true.mp (lkt_all c h1) _ h2
theorem lk_w {c i : Nat} {x : Nat × Nat × Nat} (hx : lk c i = x) (h : x.1 ≠ 0) : ∀ w ∈ lw c (i, x), w ∈ WS := by
  subst hx
  exact lkw c i h

theorem cl_in {a : Nat} (h : a < 8) : ∀ w ∈ u_ws (cn a) (nTT a) (nNN a), w ∈ WS := by
  match a, h with
  | 0, _ => exact nin0
  | 1, _ => exact nin1
  | 2, _ => exact nin2
  | 3, _ => exact nin3
  | 4, _ => exact nin4
  | 5, _ => exact nin5
  | 6, _ => exact nin6
  | 7, _ => exact nin7
  | a + 8, h => exact absurd h (by omega)
theorem cl_at {a : Nat} (h : a < 8) : mcl[a]? = some (cn a, nTT a, nNN a) := by
  match a, h with
  | 0, _ => exact rfl
  | 1, _ => exact rfl
  | 2, _ => exact rfl
  | 3, _ => exact rfl
  | 4, _ => exact rfl
  | 5, _ => exact rfl
  | 6, _ => exact rfl
  | 7, _ => exact rfl
  | a + 8, h => exact absurd h (by omega)
theorem cl_ok {a : Nat} (h : a < 8) : ∀ k, k < nNN a → parseFieldDescriptor (nTT a k).2.2.1 = some (nYY a k) := by
  match a, h with
  | 0, _ => exact nok0
  | 1, _ => exact nok1
  | 2, _ => exact nok2
  | 3, _ => exact nok3
  | 4, _ => exact nok4
  | 5, _ => exact nok5
  | 6, _ => exact nok6
  | 7, _ => exact nok7
  | a + 8, h => exact absurd h (by omega)
theorem cl_nm {a : Nat} (h : a < 8) : ∀ x, x < nNN a → ∀ z, z < nNN a → x ≠ z → (nTT a x).2.1 ≠ (nTT a z).2.1 := by
  match a, h with
  | 0, _ => exact nnm0
  | 1, _ => exact nnm1
  | 2, _ => exact nnm2
  | 3, _ => exact nnm3
  | 4, _ => exact nnm4
  | 5, _ => exact nnm5
  | 6, _ => exact nnm6
  | 7, _ => exact nnm7
  | a + 8, h => exact absurd h (by omega)
section SNC
variable {g : mG} {p : Program} {l : Launch} {e : Env} {R : Room} {s : State} {m : MethodId} {args : Array Value} {below : List Frame} {meth : Method} {c : Code} {y d M0 len pc : Nat} {L st : List Value} {M : mM} {Q : State → Prop} {r : mR}
theorem mok_ok {ty : FieldType} {v : Value} (h : mok ty v = true) : narrow ty (rv g v) = rv g v ∧ fits ty (rv g v) = true := by
  unfold mok at h
  split at h
  · exact ⟨rfl, rfl⟩
  · simp only [Bool.or_eq_true, decide_eq_true_eq] at h
    rcases h with h | h <;> subst h <;> exact ⟨rfl, rfl⟩
  · exact ⟨rfl, rfl⟩
  · rw [rv_ref (by simpa using h)]; exact ⟨rfl, rfl⟩
  · rw [rv_ref (by simpa using h)]; exact ⟨rfl, rfl⟩
  · cases h
theorem rv_o2 {k j : Nat} (h : ¬ k < 1000) (h9 : k ≠ 1009) (e : k = 1000 + j) : rv g (.ref k) = .ref (gO g j) := by
  have h1 := rv_out (g := g) h h9
  subst e
  rw [Nat.add_sub_cancel_left] at h1
  exact h1
theorem w_sz {H : Heap} {locs : List Loc} {slots : Nat} {gg : JFrame} (hz : s.heap.size = gB g + M0) (h0 : M0 ≤ M.1) (a1 : rp g M H) (a2 : va_S (Ab g) s.heap H locs) (k : H.size = gB g + M.1 → W p l e R s m args below meth c H locs (M.1 - M0) slots Q gg) : W p l e R s m args below meth c H locs (M.1 - M0) slots Q gg := by
  intro T hT X
  refine k ?_ T hT X
  have h1 : (T.setVm s.vm).heap.size ≤ s.heap.size + (M.1 - M0) := X.same.2.2.1
  have h2 : (T.setVm s.vm).heap = H := hT
  rw [h2] at h1
  have h3 : gB g + M.1 ≤ H.size := by
    by_cases h4 : M.1 = 0
    · have := a2.1; omega
    · have h5 := (a1.2.2.2 (M.1 - 1) _ (wo_get (by omega))).lt
      simp only at h5
      omega
  omega
theorem w_nq {H1 : Heap} {locs : List Loc} {slots q : Nat} {x : va_E} {gg : JFrame} (hz : s.heap.size = gB g + M0) (h0 : M0 ≤ M.1) (hP : va_P (gD g) mcl (wo g M ++ [(q, x)]) H1) (hD : va_D (Ab g) (wo g M ++ [(q, x)])) (k : q = gB g + M.1 → W p l e R s m args below meth c H1 locs (M.1 - M0 + 1) slots Q gg) : W p l e R s m args below meth c H1 locs (M.1 - M0 + 1) slots Q gg := by
  intro T hT X
  refine k ?_ T hT X
  have h1 : (T.setVm s.vm).heap.size ≤ s.heap.size + (M.1 - M0 + 1) := X.same.2.2.1
  have h2 : (T.setVm s.vm).heap = H1 := hT
  rw [h2] at h1
  have hw : (wo g M).length = M.1 := by simp [wo]
  have h3 : (wo g M ++ [(q, x)])[M.1]? = some (q, x) := by
    rw [List.getElem?_append_right (by omega), hw]
    simp
  have h4 : q < H1.size := (hP M.1 _ h3).lt
  have h5 : gB g ≤ q := hD.2 M.1 _ h3
  by_cases h6 : q - gB g < M.1
  · have h7 := hD.1 (q - gB g) M.1 _ _ (by rw [List.getElem?_append_left (by omega)]; exact wo_get h6) h3 (by show gB g + (q - gB g) = q; omega)
    omega
  · omega
theorem hK_int (hK : va_K (gD g) mcl (tysm g) s) {cI : ClassId} (h : va_K (gD g) mcl (tysm g ++ [(cI, .int)]) s) : cI = gA g 9 := by
  have h1 : s.vm.findClass ("[" ++ FieldType.int.toString) = some cI := (h.2 4 (cI, .int) rfl).2
  have h2 : s.vm.findClass ("[" ++ FieldType.int.toString) = some (gA g 9) := (hK.2 0 (gA g 9, .int) rfl).2
  exact Option.some.inj (h1.symm.trans h2)
theorem hK_obj (hK : va_K (gD g) mcl (tysm g) s) {cI : ClassId} {C : String} {i a : Nat} (hi : (tysm g)[i]? = some (gA g a, .object C)) (h : va_K (gD g) mcl (tysm g ++ [(cI, .object C)]) s) : cI = gA g a := by
  obtain ⟨_, _, -, -, -, h1⟩ := (h.2 4 (cI, .object C) rfl).2
  obtain ⟨_, _, -, -, -, h2⟩ := (hK.2 i _ hi).2
  exact Option.some.inj (h1.symm.trans h2)
theorem sn_ldc {i : Nat} (C : cx g p R s m meth c y d args) (hd : decode (bt y) pc = .ok (.ldc i, len)) (hs : stp y (.ldc i) len pc L st M = some (.inl r)) (k : Kn g p l e R s m args below meth c y M0 Q r) : Kn g p l e R s m args below meth c y M0 Q (pc, L, st, M) := by
  obtain ⟨hx, hb, -, hml, hown, hts, -, hini, hK, hF, hfr, hlo, hbs, h9⟩ := C
  simp only [stp] at hs
  obtain ⟨rfl, hs2⟩ := gt_some hs
  generalize hlk : lk (mow y) i = q at hs2
  split at hs2
  · rename_i a b
    obtain rfl := iv_nx hs2
    have hw := hts _ (lk_w hlk (by simp) _ List.mem_cons_self)
    intro H locs ls a1 a2 a3 a4
    exact lv_ldc hx hb hown hw hd (k H locs ls a1 a2 a3 a4)
  · rename_i a b
    obtain rfl := iv_nx hs2
    have ht := lk_t hlk (by simp)
    simp only [lkt, Bool.or_eq_true, decide_eq_true_eq] at ht
    obtain ⟨-, -, -, -, -, -, -, -, ⟨b1, b2, b3⟩, -⟩ := hF
    intro H locs ls a1 a2 a3 a4
    have h4 := k H locs ls a1 a2 a3 a4
    dsimp only at h4
    rw [List.map_cons] at h4
    rcases ht with (⟨e1, e2, e3⟩ | ⟨e1, e2, e3⟩) | ⟨e1, e2, e3⟩
    · subst e2; subst e3
      rw [e1] at hown
      exact va_ldcS hx hb hown b1 hd h4
    · subst e2; subst e3
      rw [e1] at hown
      exact va_ldcS hx hb hown b2 hd h4
    · subst e2; subst e3
      rw [e1] at hown
      exact va_ldcS hx hb hown b3 hd h4
  · cases hs2
theorem sn_ldc2_w {i : Nat} (C : cx g p R s m meth c y d args) (hd : decode (bt y) pc = .ok (.ldc2_w i, len)) (hs : stp y (.ldc2_w i) len pc L st M = some (.inl r)) (k : Kn g p l e R s m args below meth c y M0 Q r) : Kn g p l e R s m args below meth c y M0 Q (pc, L, st, M) := by
  obtain ⟨hx, hb, -, hml, hown, hts, -, hini, hK, hF, hfr, hlo, hbs, h9⟩ := C
  simp only [stp] at hs
  obtain ⟨rfl, hs2⟩ := gt_some hs
  generalize hlk : lk (mow y) i = q at hs2
  split at hs2
  · rename_i a b
    obtain rfl := iv_nx hs2
    have hw := hts _ (lk_w hlk (by simp) _ List.mem_cons_self)
    intro H locs ls a1 a2 a3 a4
    exact lv_ldc2 hx hb hown hw hd (k H locs ls a1 a2 a3 a4)
  · cases hs2
theorem sn_ldc_w {i : Nat} (C : cx g p R s m meth c y d args) (hd : decode (bt y) pc = .ok (.ldc_w i, len)) (hs : stp y (.ldc_w i) len pc L st M = some (.inl r)) (k : Kn g p l e R s m args below meth c y M0 Q r) : Kn g p l e R s m args below meth c y M0 Q (pc, L, st, M) := by
  obtain ⟨hx, hb, -, hml, hown, hts, -, hini, hK, hF, hfr, hlo, hbs, h9⟩ := C
  simp only [stp] at hs
  obtain ⟨rfl, hs2⟩ := gt_some hs
  generalize hlk : lk (mow y) i = q at hs2
  split at hs2
  · rename_i a b
    obtain rfl := iv_nx hs2
    have hw := hts _ (lk_w hlk (by simp) _ List.mem_cons_self)
    intro H locs ls a1 a2 a3 a4 T hT X
    obtain ⟨t, b1, b2⟩ := k H locs ls a1 a2 a3 a4 T hT X
    exact ⟨t, va_ldcwI X hx hown hw (g := F0 m pc ls (st.map (rv g))) rfl (by rw [hb]; exact hd) t b1, b2⟩
  · cases hs2
theorem iv_get {a b pc2 : Nat} (h : mget a b pc2 L st M = some (.inl r)) : ∃ (q : Nat), ∃ fs v st2, st = .ref q :: st2 ∧ M.2 q = .inr (.inr (a, fs)) ∧ fs[b]? = some v ∧ r = (pc2, L, v :: st2, M) := by
  unfold mget at h
  split at h
  · split at h
    · obtain ⟨rfl, h2⟩ := gt_some h
      split at h2
      · exact ⟨_, _, _, _, rfl, by assumption, by assumption, iv_nx h2⟩
      · cases h2
    · cases h
  · cases h
theorem iv_putf {a b pc2 : Nat} (h : mputf y a b pc2 L st M = some (.inl r)) : ∃ (q : Nat), ∃ fs v st2, st = v :: .ref q :: st2 ∧ M.2 q = .inr (.inr (a, fs)) ∧ b < fs.length ∧ mput y a b v = true ∧ r = (pc2, L, st2, mset M q (.inr (.inr (a, fs.set b v)))) := by
  unfold mputf at h
  split at h
  · split at h
    · obtain ⟨⟨rfl, h3, h4⟩, h2⟩ := gt_some h
      exact ⟨_, _, _, _, rfl, by assumption, h3, h4, iv_nx h2⟩
    · cases h
  · cases h
theorem sn_getfield {i : Nat} (C : cx g p R s m meth c y d args) (hd : decode (bt y) pc = .ok (.getfield i, len)) (hs : stp y (.getfield i) len pc L st M = some (.inl r)) (k : Kn g p l e R s m args below meth c y M0 Q r) : Kn g p l e R s m args below meth c y M0 Q (pc, L, st, M) := by
  obtain ⟨hx, hb, -, hml, hown, hts, -, hini, hK, hF, hfr, hlo, hbs, h9⟩ := C
  simp only [stp] at hs
  obtain ⟨rfl, hs2⟩ := gt_some hs
  generalize hlk : lk (mow y) i = q at hs2
  split at hs2
  · rename_i a b
    obtain ⟨q, fs, v, st2, rfl, h1, h2, rfl⟩ := iv_get hs2
    have hw := hts _ (lk_w hlk (by simp) _ List.mem_cons_self)
    have ht := lk_t hlk (by simp)
    simp only [lkt, Bool.and_eq_true, decide_eq_true_eq] at ht
    intro H locs ls a1 a2 a3 a4
    have hq : q < M.1 := rp_obj a1 h1 ht.1
    have he := wo_get (g := g) hq
    rw [h1] at he
    have hq2 : q < 1000 := Nat.lt_of_lt_of_le hq a1.2.2.1
    show W _ _ _ _ _ _ _ _ _ _ _ _ _ _ _ (F0 m pc ls (rv g (.ref q) :: st2.map (rv g)))
    rw [rv_ref hq2]
    exact va_get (C := cn a) (T := nTT a) (N := nNN a) hx hb hts (cl_in ht.1) hown hK a1.2.2.2 q he (cl_at ht.1) b ht.2 hw (fun _ h => h) (v := rv g v) (by simp [h2]) hd (k H locs ls a1 a2 a3 a4)
  · rename_i a b
    obtain ⟨q, fs, v, st2, rfl, h1, h2, rfl⟩ := iv_get hs2
    have hw := hts _ (lk_w hlk (by simp) _ List.mem_cons_self)
    have ht := lk_t hlk (by simp)
    simp only [lkt, decide_eq_true_eq] at ht
    intro H locs ls a1 a2 a3 a4
    have hq : ¬ q < M.1 := fun hq => by
      have := a1.1 q hq
      rw [h1] at this
      exact absurd this (by simp [wk])
    have hro := a1.2.1 q (Nat.le_of_not_lt hq)
    dsimp only at hro
    rw [h1] at hro
    rcases ro_obj hro.symm with ⟨-, e1, e2, e3⟩ | ⟨e1, -⟩
    · subst e3
      have h4 := k H locs ls a1 a2 a3 a4
      show W _ _ _ _ _ _ _ _ _ _ _ _ _ _ _ (F0 m pc ls (rv g (.ref q) :: st2.map (rv g)))
      rw [rv_out (by omega) (by omega)]
      dsimp only at h4
      rw [List.map_cons] at h4
      have hS8 := (hF.2.2.2.2.2.2.2.1.1 (q - 1003) (by omega)).2
      have e5 : q - 1000 = 3 + (q - 1003) := by omega
      rw [e5]
      match a, ht with
      | 0, _ =>
        have h5 : v = .ref (q + 3) := by simpa using h2.symm
        subst h5
        have e6 : rv g (.ref (q + 3)) = .ref (gO g (6 + (q - 1003))) := rv_o2 (by omega) (by omega) (by omega)
        rw [e6] at h4
        exact vk_getf hx hb hS8.2.1 a2 hown hw (fun _ h => h) hd h4
      | 1, _ =>
        have h5 : v = .int 0 := by simpa using h2.symm
        subst h5
        exact vk_getf hx hb hS8.1 a2 hown hw (fun _ h => h) hd h4
      | a + 2, h => exact absurd h (by omega)
    · exact absurd e1 (by decide)
  · cases hs2
theorem sn_putfield {i : Nat} (C : cx g p R s m meth c y d args) (hd : decode (bt y) pc = .ok (.putfield i, len)) (hs : stp y (.putfield i) len pc L st M = some (.inl r)) (k : Kn g p l e R s m args below meth c y M0 Q r) : Kn g p l e R s m args below meth c y M0 Q (pc, L, st, M) := by
  obtain ⟨hx, hb, -, hml, hown, hts, -, hini, hK, hF, hfr, hlo, hbs, h9⟩ := C
  simp only [stp] at hs
  obtain ⟨rfl, hs2⟩ := gt_some hs
  generalize hlk : lk (mow y) i = q at hs2
  split at hs2
  · rename_i a b
    obtain ⟨q, fs, v, st2, rfl, h1, h2, h3, rfl⟩ := iv_putf hs2
    have hw := hts _ (lk_w hlk (by simp) _ List.mem_cons_self)
    have ht := lk_t hlk (by simp)
    simp only [lkt, Bool.and_eq_true, decide_eq_true_eq] at ht
    intro H locs ls a1 a2 a3 a4
    have hq : q < M.1 := rp_obj a1 h1 ht.1
    have he := wo_get (g := g) hq
    rw [h1] at he
    have hq2 : q < 1000 := Nat.lt_of_lt_of_le hq a1.2.2.1
    show W _ _ _ _ _ _ _ _ _ _ _ _ _ _ _ (F0 m pc ls (rv g v :: rv g (.ref q) :: st2.map (rv g)))
    rw [rv_ref hq2]
    simp only [mput, Bool.and_eq_true, Bool.or_eq_true, Bool.not_eq_true', decide_eq_true_eq] at h3
    obtain ⟨h5, h6⟩ := mok_ok (g := g) h3.1
    have hk : ∀ (H1 : Heap) (locs1 : List Loc), va_P (gD g) mcl ((wo g M).set q (gB g + q, .inr (a, (fs.map (rv g)).set b (rv g v)))) H1 → va_D (Ab g) ((wo g M).set q (gB g + q, .inr (a, (fs.map (rv g)).set b (rv g v)))) → va_S (Ab g) s.heap H1 locs1 → W p l e R s m args below meth c H1 locs1 (M.1 - M0) (1200 * (M.1 - M0)) Q (F0 m (pc + 3) ls (st2.map (rv g))) := by
      intro H1 locs1 hP1 hD1 hS1
      rw [← List.map_set] at hP1
      exact k H1 locs1 ls (rp_set (x := .inr (.inr (a, fs.set b v))) a1 hq ht.1 hP1) hS1 a3 a4
    have hl : b < (fs.map (rv g)).length := by simpa using h2
    by_cases hf : (nTT a b).2.2.2 = false
    · exact va_put (C := cn a) (T := nTT a) (N := nNN a) hx hb hts (cl_in ht.1) (nYY a) (cl_ok ht.1) (cl_nm ht.1) hown hK a1.2.2.2 wo_D a2 q he (cl_at ht.1) b ht.2 hw (fun _ h => h) hf (cl_ok ht.1 b ht.2) h5 h6 hl hd hk
    · rcases h3.2 with h7 | ⟨h7, h8⟩
      · exact absurd h7 hf
      · have hdc : (nTT a b).1 = cn (mow y) := by
          rw [h7]
          have : ∀ a, a < 8 → ∀ b, b < nNN a → (nTT a b).1 = cn a := by decide +kernel
          exact this a ht.1 b ht.2
        exact va_putF (C := cn a) (T := nTT a) (N := nNN a) hx hb hts (cl_in ht.1) (nYY a) (cl_ok ht.1) (cl_nm ht.1) hown hK a1.2.2.2 wo_D a2 q he (cl_at ht.1) b ht.2 hw (fun _ h => h) (by simpa using hf) (hini h8) hdc (cl_ok ht.1 b ht.2) h5 h6 hl hd hk
  · cases hs2
theorem sn_getstatic {i : Nat} (C : cx g p R s m meth c y d args) (hd : decode (bt y) pc = .ok (.getstatic i, len)) (hs : stp y (.getstatic i) len pc L st M = some (.inl r)) (k : Kn g p l e R s m args below meth c y M0 Q r) : Kn g p l e R s m args below meth c y M0 Q (pc, L, st, M) := by
  obtain ⟨hx, hb, -, hml, hown, hts, -, hini, hK, hF, hfr, hlo, hbs, h9⟩ := C
  simp only [stp] at hs
  obtain ⟨rfl, hs2⟩ := gt_some hs
  generalize hlk : lk (mow y) i = q at hs2
  split at hs2
  · rename_i a b
    obtain rfl := iv_nx hs2
    have hw := hts _ (lk_w hlk (by simp) _ List.mem_cons_self)
    have ht := lk_t hlk (by simp)
    simp only [lkt, decide_eq_true_eq] at ht
    intro H locs ls a1 a2 a3 a4
    have h4 := k H locs ls a1 a2 a3 a4
    obtain ⟨-, f1, -, f2, -, f3, f4, -⟩ := hF
    match a, ht with
    | 0, _ => exact va_gets hx hb f1 a2 hown hw (fun _ h => h) hd h4
    | 1, _ => exact va_gets hx hb f2 a2 hown hw (fun _ h => h) hd h4
    | 2, _ => exact va_gets hx hb f3 a2 hown hw (fun _ h => h) hd h4
    | 3, _ => exact va_gets hx hb f4 a2 hown hw (fun _ h => h) hd h4
    | a + 4, h => exact absurd h (by omega)
  · cases hs2
theorem iv_ald {tg : Nat → Bool} {pc2 : Nat} (h : mald tg pc2 L st M = some (.inl r)) : ∃ j, ∃ (q : Nat), ∃ t n f st2, st = .int j :: .ref q :: st2 ∧ M.2 q = .inl (t, n, f) ∧ tg t = true ∧ vp_in j n ∧ r = (pc2, L, .int (f j.toNatClampNeg) :: st2, M) := by
  unfold mald at h
  split at h
  · split at h
    · obtain ⟨⟨h1, h2⟩, h3⟩ := gt_some h
      exact ⟨_, _, _, _, _, _, rfl, by assumption, h1, h2, iv_nx h3⟩
    · cases h
  · cases h
theorem ro_read {k t n : Nat} {f : Nat → Int32} (h : ro g k = .inl (t, n, f)) (ht : t = 1) (hF : rof g s s.heap) : k ≠ 1009 ∧ ¬ k < 1000 ∧ va_T .int (gO g (k - 1000)) n (fun j => .int (f j)) (Ab g) s s.heap := by
  subst ht
  rcases ro_arr h with ⟨-, e | e | e⟩ | ⟨e, -⟩
  · subst e
    simp only [ro, if_true, Sum.inl.injEq, Prod.mk.injEq, true_and] at h
    obtain ⟨rfl, rfl⟩ := h
    exact ⟨by decide, by decide, hF.1⟩
  · subst e
    simp [ro] at h
    obtain ⟨rfl, rfl⟩ := h
    exact ⟨by decide, by decide, by simpa using hF.2.2.1⟩
  · subst e
    simp [ro] at h
    obtain ⟨rfl, rfl⟩ := h
    exact ⟨by decide, by decide, by simpa using hF.2.2.2.2.1⟩
  · exact absurd e (by decide)
theorem ro_readB {k t n : Nat} {f : Nat → Int32} (h : ro g k = .inl (t, n, f)) (ht : t = 2) (hF : rof g s s.heap) : k ≠ 1009 ∧ ¬ k < 1000 ∧ va_T .byte (gO g (k - 1000)) n (fun j => .int (f j)) (Ab g) s s.heap := by
  subst ht
  rcases ro_arr h with ⟨e, -⟩ | ⟨-, e1, e2⟩
  · exact absurd e (by decide)
  · have hS8 := (hF.2.2.2.2.2.2.2.1.1 (k - 1006) (by omega)).2.2.2
    have h3 : k = 1006 ∨ k = 1007 ∨ k = 1008 := by omega
    refine ⟨by omega, by omega, ?_⟩
    rcases h3 with e | e | e
    · subst e
      simp [ro] at h
      obtain ⟨rfl, rfl⟩ := h
      simpa using hS8
    · subst e
      simp [ro] at h
      obtain ⟨rfl, rfl⟩ := h
      simpa using hS8
    · subst e
      simp [ro] at h
      obtain ⟨rfl, rfl⟩ := h
      simpa using hS8
theorem sn_iaload (C : cx g p R s m meth c y d args) (hd : decode (bt y) pc = .ok (.iaload, len)) (hs : stp y (.iaload) len pc L st M = some (.inl r)) (k : Kn g p l e R s m args below meth c y M0 Q r) : Kn g p l e R s m args below meth c y M0 Q (pc, L, st, M) := by
  obtain ⟨hx, hb, -, hml, hown, hts, -, hini, hK, hF, hfr, hlo, hbs, h9⟩ := C
  obtain ⟨rfl, hs2⟩ := gt_some (show (if len = 1 then mald (fun t => decide (t ≤ 1)) (pc + 1) L st M else none) = some (.inl r) from hs)
  obtain ⟨j, q, t, n, f, st2, rfl, h1, h2, h3, rfl⟩ := iv_ald hs2
  simp only [decide_eq_true_eq] at h2
  intro H locs ls a1 a2 a3 a4
  have h4 := k H locs ls a1 a2 a3 a4
  show W _ _ _ _ _ _ _ _ _ _ _ _ _ _ _ (F0 m pc ls (.int j :: rv g (.ref q) :: st2.map (rv g)))
  by_cases hq : q < M.1
  · have he := wo_get (g := g) hq
    rw [h1] at he
    rw [rv_ref (Nat.lt_of_lt_of_le hq a1.2.2.1)]
    exact va_iald hx hb hK a1.2.2.2 q 0 he rfl h3 hd h4
  · have hro := a1.2.1 q (Nat.le_of_not_lt hq)
    dsimp only at hro
    rw [h1] at hro
    have ht : t = 1 := by rcases ro_arr hro.symm with ⟨e, -⟩ | ⟨e, -⟩ <;> omega
    obtain ⟨e1, e2, e3⟩ := ro_read hro.symm ht hF
    rw [rv_out e2 e1]
    exact va_ti hx hb e3 a2 h3 rfl hd h4
theorem sn_baload (C : cx g p R s m meth c y d args) (hd : decode (bt y) pc = .ok (.baload, len)) (hs : stp y (.baload) len pc L st M = some (.inl r)) (k : Kn g p l e R s m args below meth c y M0 Q r) : Kn g p l e R s m args below meth c y M0 Q (pc, L, st, M) := by
  obtain ⟨hx, hb, -, hml, hown, hts, -, hini, hK, hF, hfr, hlo, hbs, h9⟩ := C
  obtain ⟨rfl, hs2⟩ := gt_some (show (if len = 1 then mald (fun t => decide (t = 2)) (pc + 1) L st M else none) = some (.inl r) from hs)
  obtain ⟨j, q, t, n, f, st2, rfl, h1, h2, h3, rfl⟩ := iv_ald hs2
  simp only [decide_eq_true_eq] at h2
  intro H locs ls a1 a2 a3 a4
  have h4 := k H locs ls a1 a2 a3 a4
  show W _ _ _ _ _ _ _ _ _ _ _ _ _ _ _ (F0 m pc ls (.int j :: rv g (.ref q) :: st2.map (rv g)))
  by_cases hq : q < M.1
  · have := a1.1 q hq
    dsimp only at this
    rw [h1] at this
    exact absurd this (by show ¬ t = 0; omega)
  · have hro := a1.2.1 q (Nat.le_of_not_lt hq)
    dsimp only at hro
    rw [h1] at hro
    obtain ⟨e1, e2, e3⟩ := ro_readB hro.symm h2 hF
    rw [rv_out e2 e1]
    exact va_tb hx hb e3 a2 h3 rfl hd h4
theorem sn_iastore (C : cx g p R s m meth c y d args) (hd : decode (bt y) pc = .ok (.iastore, len)) (hs : stp y (.iastore) len pc L st M = some (.inl r)) (k : Kn g p l e R s m args below meth c y M0 Q r) : Kn g p l e R s m args below meth c y M0 Q (pc, L, st, M) := by
  obtain ⟨hx, hb, -, hml, hown, hts, -, hini, hK, hF, hfr, hlo, hbs, h9⟩ := C
  obtain ⟨rfl, hs2⟩ := gt_some (show (if len = 1 then mast (pc + 1) L st M else none) = some (.inl r) from hs)
  unfold mast at hs2
  split at hs2
  · rename_i x j q st2
    split at hs2
    · rename_i t n f h1
      obtain ⟨⟨rfl, h3⟩, hs3⟩ := gt_some hs2
      obtain rfl := iv_nx hs3
      intro H locs ls a1 a2 a3 a4
      have hq : q < M.1 := rp_ar a1 h1
      have he := wo_get (g := g) hq
      rw [h1] at he
      show W _ _ _ _ _ _ _ _ _ _ _ _ _ _ _ (F0 m pc ls (.int x :: .int j :: rv g (.ref q) :: st2.map (rv g)))
      rw [rv_ref (Nat.lt_of_lt_of_le hq a1.2.2.1)]
      exact va_iast hx hb hK a1.2.2.2 wo_D a2 q 0 he rfl h3 hd (fun H1 locs1 hP1 hD1 hS1 => k H1 locs1 ls (rp_set (x := .inl (0, n, upd f j.toNatClampNeg x)) a1 hq rfl hP1) hS1 a3 a4)
    · cases hs2
  · cases hs2
theorem sn_aaload (C : cx g p R s m meth c y d args) (hd : decode (bt y) pc = .ok (.aaload, len)) (hs : stp y (.aaload) len pc L st M = some (.inl r)) (k : Kn g p l e R s m args below meth c y M0 Q r) : Kn g p l e R s m args below meth c y M0 Q (pc, L, st, M) := by
  obtain ⟨hx, hb, -, hml, hown, hts, -, hini, hK, hF, hfr, hlo, hbs, h9⟩ := C
  obtain ⟨rfl, hs2⟩ := gt_some (show (if len = 1 then mald_q (pc + 1) L st M else none) = some (.inl r) from hs)
  unfold mald_q at hs2
  split at hs2
  · rename_i j q st2
    split at hs2
    · rename_i t n f h1
      obtain ⟨h3, hs3⟩ := gt_some hs2
      obtain rfl := iv_nx hs3
      intro H locs ls a1 a2 a3 a4
      have hq : q < M.1 := rp_qr a1 h1
      have he := wo_get (g := g) hq
      have hw := a1.1 q hq
      dsimp only at hw
      rw [h1] at he hw
      have h4 := k H locs ls a1 a2 a3 a4
      dsimp only at h4
      rw [List.map_cons] at h4
      have h5 : rv g (mref (f j.toNatClampNeg)) = va_rf ((f j.toNatClampNeg).map (fun k => gB g + k)) := by
        cases hf : f j.toNatClampNeg with
        | none => rfl
        | some k2 => exact rv_ref (hw.2 _ _ hf)
      rw [h5] at h4
      show W _ _ _ _ _ _ _ _ _ _ _ _ _ _ _ (F0 m pc ls (.int j :: rv g (.ref q) :: st2.map (rv g)))
      rw [rv_ref (Nat.lt_of_lt_of_le hq a1.2.2.1)]
      rcases hw.1 with e | e | e
      · subst e
        exact va_aldq hx hb hK a1.2.2.2 q 1 he rfl h3 hd h4
      · subst e
        exact va_aldq hx hb hK a1.2.2.2 q 2 he rfl h3 hd h4
      · subst e
        exact va_aldq hx hb hK a1.2.2.2 q 3 he rfl h3 hd h4
    · cases hs2
  · cases hs2
theorem sn_aastore (C : cx g p R s m meth c y d args) (hd : decode (bt y) pc = .ok (.aastore, len)) (hs : stp y (.aastore) len pc L st M = some (.inl r)) (k : Kn g p l e R s m args below meth c y M0 Q r) : Kn g p l e R s m args below meth c y M0 Q (pc, L, st, M) := by
  obtain ⟨hx, hb, -, hml, hown, hts, -, hini, hK, hF, hfr, hlo, hbs, h9⟩ := C
  obtain ⟨rfl, hs2⟩ := gt_some (show (if len = 1 then mast_q (pc + 1) L st M else none) = some (.inl r) from hs)
  unfold mast_q at hs2
  split at hs2
  · rename_i kk j q st2
    split at hs2
    · rename_i t n f a fs h1 h2
      obtain ⟨⟨rfl, h3⟩, hs3⟩ := gt_some hs2
      obtain rfl := iv_nx hs3
      intro H locs ls a1 a2 a3 a4
      have hq : q < M.1 := rp_qr a1 h1
      have he := wo_get (g := g) hq
      have hw := a1.1 q hq
      dsimp only at hw
      rw [h1] at he hw
      have ha : t < 8 := by rcases hw.1 with e | e | e <;> omega
      have hkk : kk < M.1 := rp_obj a1 h2 ha
      have hek := wo_get (g := g) hkk
      rw [h2] at hek
      have hk2 : kk < 1000 := Nat.lt_of_lt_of_le hkk a1.2.2.1
      show W _ _ _ _ _ _ _ _ _ _ _ _ _ _ _ (F0 m pc ls (rv g (.ref kk) :: .int j :: rv g (.ref q) :: st2.map (rv g)))
      rw [rv_ref (Nat.lt_of_lt_of_le hq a1.2.2.1), rv_ref hk2]
      have hx2 : wk (.inr (.inl (t, n, va_up f j.toNatClampNeg (some kk)))) := ⟨hw.1, fun j2 k2 h => by
        by_cases e : j2 = j.toNatClampNeg
        · subst e
          rw [va_up_self] at h
          cases h
          exact hk2
        · rw [va_up_ne _ _ e] at h
          exact hw.2 _ _ h⟩
      have hup : (fun j2 => (va_up f j.toNatClampNeg (some kk) j2).map (fun k => gB g + k)) = va_up (fun j2 => (f j2).map (fun k => gB g + k)) j.toNatClampNeg (some (gB g + kk)) := by
        funext j2
        by_cases e : j2 = j.toNatClampNeg
        · subst e; rw [va_up_self, va_up_self]; rfl
        · rw [va_up_ne _ _ e, va_up_ne _ _ e]
      have hgo : ∀ (H1 : Heap) (locs1 : List Loc), va_P (gD g) mcl ((wo g M).set q (gB g + q, .inl (gA g t, n, .inr (.inr (.inr (.inr (va_up (fun j2 => (f j2).map (fun k => gB g + k)) j.toNatClampNeg (some (gB g + kk))))))))) H1 → va_D (Ab g) ((wo g M).set q (gB g + q, .inl (gA g t, n, .inr (.inr (.inr (.inr (va_up (fun j2 => (f j2).map (fun k => gB g + k)) j.toNatClampNeg (some (gB g + kk))))))))) → va_S (Ab g) s.heap H1 locs1 → W p l e R s m args below meth c H1 locs1 (M.1 - M0) (1200 * (M.1 - M0)) Q (F0 m (pc + 1) ls (st2.map (rv g))) := by
        intro H1 locs1 hP1 hD1 hS1
        rw [← hup] at hP1
        exact k H1 locs1 ls (rp_set (x := .inr (.inl (t, n, va_up f j.toNatClampNeg (some kk)))) a1 hq hx2 hP1) hS1 a3 a4
      rcases hw.1 with e | e | e
      · subst e
        exact va_astq hx hb hK a1.2.2.2 wo_D a2 q 1 kk 0 (r := (cn 0, nTT 0, nNN 0)) he rfl hek rfl h3 hd hgo
      · subst e
        exact va_astq hx hb hK a1.2.2.2 wo_D a2 q 2 kk 2 (r := (cn 2, nTT 2, nNN 2)) he rfl hek rfl h3 hd hgo
      · subst e
        exact va_astq hx hb hK a1.2.2.2 wo_D a2 q 3 kk 5 (r := (cn 5, nTT 5, nNN 5)) he rfl hek rfl h3 hd hgo
    · cases hs2
  · cases hs2
theorem sn_arraylength (C : cx g p R s m meth c y d args) (hd : decode (bt y) pc = .ok (.arraylength, len)) (hs : stp y (.arraylength) len pc L st M = some (.inl r)) (k : Kn g p l e R s m args below meth c y M0 Q r) : Kn g p l e R s m args below meth c y M0 Q (pc, L, st, M) := by
  obtain ⟨hx, hb, -, hml, hown, hts, -, hini, hK, hF, hfr, hlo, hbs, h9⟩ := C
  simp only [stp] at hs
  obtain ⟨rfl, hs2⟩ := gt_some hs
  split at hs2
  · rename_i q st2
    split at hs2
    · rename_i n hn
      obtain rfl := iv_nx hs2
      intro H locs ls a1 a2 a3 a4
      have h4 := k H locs ls a1 a2 a3 a4
      show W _ _ _ _ _ _ _ _ _ _ _ _ _ _ _ (F0 m pc ls (rv g (.ref q) :: st2.map (rv g)))
      by_cases hq : q < M.1
      · have he := wo_get (g := g) hq
        have hw := a1.1 q hq
        dsimp only at hw
        rw [rv_ref (Nat.lt_of_lt_of_le hq a1.2.2.1)]
        generalize hc : M.2 q = x at hn he hw
        match x, hn with
        | .inl (t, n2, f), hn =>
          obtain rfl : n2 = n := by simpa [mlen] using hn
          exact va_alen hx hb hK a1.2.2.2 q 0 he rfl rfl hd h4
        | .inr (.inl (t, n2, f)), hn =>
          obtain rfl : n2 = n := by simpa [mlen] using hn
          rcases hw.1 with e | e | e
          · subst e
            exact va_alen hx hb hK a1.2.2.2 q 1 he rfl rfl hd h4
          · subst e
            exact va_alen hx hb hK a1.2.2.2 q 2 he rfl rfl hd h4
          · subst e
            exact va_alen hx hb hK a1.2.2.2 q 3 he rfl rfl hd h4
        | .inr (.inr (t, f)), hn => simp [mlen] at hn
      · have hro := a1.2.1 q (Nat.le_of_not_lt hq)
        dsimp only at hro
        generalize hc : M.2 q = x at hn hro
        match x, hn with
        | .inl (t, n2, f), hn =>
          obtain rfl : n2 = n := by simpa [mlen] using hn
          rcases ro_arr hro.symm with ⟨e, -⟩ | ⟨e, -⟩
          · obtain ⟨e1, e2, e3⟩ := ro_read hro.symm e hF
            rw [rv_out e2 e1]
            exact va_tlen hx hb e3 a2 rfl hd h4
          · obtain ⟨e1, e2, e3⟩ := ro_readB hro.symm e hF
            rw [rv_out e2 e1]
            exact va_tlen hx hb e3 a2 rfl hd h4
        | .inr (.inl x), hn => exact absurd (ro_q hro.symm) id
        | .inr (.inr (t, f)), hn => simp [mlen] at hn
    · cases hs2
  · cases hs2
theorem sn_newarray {t : ArrayType} (C : cx g p R s m meth c y d args) (hz : s.heap.size = gB g + M0) (h0 : M0 ≤ M.1) (hr : r.2.2.2.1 - M0 ≤ R.cells ∧ 1200 * (r.2.2.2.1 - M0) ≤ R.slots) (hd : decode (bt y) pc = .ok (.newarray t, len)) (hs : stp y (.newarray t) len pc L st M = some (.inl r)) (k : Kn g p l e R s m args below meth c y M0 Q r) : Kn g p l e R s m args below meth c y M0 Q (pc, L, st, M) := by
  obtain ⟨hx, hb, -, hml, hown, hts, -, hini, hK, hF, hfr, hlo, hbs, h9⟩ := C
  simp only [stp] at hs
  obtain ⟨⟨rfl, rfl⟩, hs2⟩ := gt_some hs
  split at hs2
  · rename_i n st2
    obtain ⟨⟨h1, h2, h3⟩, hs3⟩ := gt_some hs2
    obtain rfl := iv_nx hs3
    have hr1 : M.1 + 1 - M0 ≤ R.cells := hr.1
    have hr2 : 1200 * (M.1 + 1 - M0) ≤ R.slots := hr.2
    intro H locs ls a1 a2 a3 a4
    show W p l e R s m args below meth c H locs (M.1 - M0) (1200 * (M.1 - M0)) Q (F0 m pc ls (.int n :: st2.map (rv g)))
    refine va_newa (atype := .int) hx hb (hts _ ws_arrI) rfl hK a1.2.2.2 wo_D a2 (fun q h => Nat.le_trans hbs h) (N' := n.toNatClampNeg) (a0 := (n.toNatClampNeg, .inl (fun _ => 0))) (fun cI => rfl) h1 rfl (Nat.le_trans (Nat.mul_le_mul_right _ h2) (by decide)) (by omega) (by omega) hd ?_
    intro q cI H1 hK1 hP1 hD1 hS1
    obtain rfl := hK_int hK hK1
    refine W.widen (k := M.1 - M0 + 1) (n := 1200 * (M.1 + 1 - M0)) (Nat.le_refl _) (by omega) ?_
    refine w_nq hz h0 hP1 hD1 fun hq => ?_
    subst hq
    have h4 := k H1 locs ls (rp_push (x := .inl (0, n.toNatClampNeg, fun _ => 0)) a1 rfl h3 hP1) hS1 a3 a4
    have e1 : M.1 - M0 + 1 = M.1 + 1 - M0 := by omega
    rw [e1]
    dsimp only at h4
    rw [List.map_cons, rv_ref h3] at h4
    exact h4
  · cases hs2
theorem sn_anewarray {i : Nat} (C : cx g p R s m meth c y d args) (hz : s.heap.size = gB g + M0) (h0 : M0 ≤ M.1) (hr : r.2.2.2.1 - M0 ≤ R.cells ∧ 1200 * (r.2.2.2.1 - M0) ≤ R.slots) (hd : decode (bt y) pc = .ok (.anewarray i, len)) (hs : stp y (.anewarray i) len pc L st M = some (.inl r)) (k : Kn g p l e R s m args below meth c y M0 Q r) : Kn g p l e R s m args below meth c y M0 Q (pc, L, st, M) := by
  obtain ⟨hx, hb, -, hml, hown, hts, -, hini, hK, hF, hfr, hlo, hbs, h9⟩ := C
  simp only [stp] at hs
  obtain ⟨rfl, hs1⟩ := gt_some hs
  generalize hlk : lk (mow y) i = q at hs1
  split at hs1
  · rename_i a b
    split at hs1
    · rename_i n st2
      obtain ⟨⟨h1, h2, h3⟩, hs3⟩ := gt_some hs1
      obtain rfl := iv_nx hs3
      have hr1 : M.1 + 1 - M0 ≤ R.cells := hr.1
      have hr2 : 1200 * (M.1 + 1 - M0) ≤ R.slots := hr.2
      have hw := hts _ (lk_w hlk (by simp) _ List.mem_cons_self)
      have ht := lk_t hlk (by simp)
      simp only [lkt, Bool.or_eq_true, decide_eq_true_eq] at ht
      obtain ⟨f1, f2, f3⟩ := hF.2.2.2.2.2.2.2.2.2.1
      have ht2 : a = 0 ∨ a = 2 ∨ a = 5 := by omega
      intro H locs ls a1 a2 a3 a4
      have hgo : ∀ (q : Nat) (H1 : Heap), va_P (gD g) mcl (wo g M ++ [(q, .inl (gA g a, n.toNatClampNeg, .inr (.inr (.inr (.inr (fun _ => none))))))]) H1 → va_D (Ab g) (wo g M ++ [(q, .inl (gA g a, n.toNatClampNeg, .inr (.inr (.inr (.inr (fun _ => none))))))]) → va_S (Ab g) s.heap H1 locs → W p l e R s m args below meth c H1 locs (M.1 - M0 + 1) (1200 * (M.1 - M0) + n.toNatClampNeg) Q (F0 m (pc + 3) ls (.ref q :: st2.map (rv g))) := by
        intro q H1 hP1 hD1 hS1
        refine W.widen (k := M.1 - M0 + 1) (n := 1200 * (M.1 + 1 - M0)) (Nat.le_refl _) (by omega) ?_
        refine w_nq hz h0 hP1 hD1 fun hq => ?_
        subst hq
        have h4 := k H1 locs ls (rp_push (x := .inr (.inl (a, n.toNatClampNeg, fun _ => none))) a1 ⟨ht2, fun _ _ h => by cases h⟩ h3 hP1) hS1 a3 a4
        have e1 : M.1 - M0 + 1 = M.1 + 1 - M0 := by omega
        rw [e1]
        dsimp only at h4
        rw [List.map_cons, rv_ref h3] at h4
        exact h4
      have hby : n.toNatClampNeg * 4 ≤ 536870912 := by omega
      show W p l e R s m args below meth c H locs (M.1 - M0) (1200 * (M.1 - M0)) Q (F0 m pc ls (.int n :: st2.map (rv g)))
      rcases ht2 with e | e | e
      · subst e
        refine va_newq hx hb hown hw f1 hK a1.2.2.2 wo_D a2 (fun q h => Nat.le_trans hbs h) (N' := n.toNatClampNeg) h1 rfl hby (by omega) (by omega) hd ?_
        intro q cI H1 hK1 hP1 hD1 hS1
        obtain rfl := hK_obj (i := 1) (a := 0) hK rfl hK1
        exact hgo q H1 hP1 hD1 hS1
      · subst e
        refine va_newq hx hb hown hw f2 hK a1.2.2.2 wo_D a2 (fun q h => Nat.le_trans hbs h) (N' := n.toNatClampNeg) h1 rfl hby (by omega) (by omega) hd ?_
        intro q cI H1 hK1 hP1 hD1 hS1
        obtain rfl := hK_obj (i := 2) (a := 2) hK rfl hK1
        exact hgo q H1 hP1 hD1 hS1
      · subst e
        refine va_newq hx hb hown hw f3 hK a1.2.2.2 wo_D a2 (fun q h => Nat.le_trans hbs h) (N' := n.toNatClampNeg) h1 rfl hby (by omega) (by omega) hd ?_
        intro q cI H1 hK1 hP1 hD1 hS1
        obtain rfl := hK_obj (i := 3) (a := 5) hK rfl hK1
        exact hgo q H1 hP1 hD1 hS1
    · cases hs1
  · cases hs1
theorem sn_new {i : Nat} (C : cx g p R s m meth c y d args) (hz : s.heap.size = gB g + M0) (h0 : M0 ≤ M.1) (hr : r.2.2.2.1 - M0 ≤ R.cells ∧ 1200 * (r.2.2.2.1 - M0) ≤ R.slots) (hd : decode (bt y) pc = .ok (.new i, len)) (hs : stp y (.new i) len pc L st M = some (.inl r)) (k : Kn g p l e R s m args below meth c y M0 Q r) : Kn g p l e R s m args below meth c y M0 Q (pc, L, st, M) := by
  obtain ⟨hx, hb, -, hml, hown, hts, -, hini, hK, hF, hfr, hlo, hbs, h9⟩ := C
  simp only [stp] at hs
  obtain ⟨rfl, hs1⟩ := gt_some hs
  generalize hlk : lk (mow y) (i + 65536) = q at hs1
  split at hs1
  · rename_i a b
    obtain ⟨h3, hs3⟩ := gt_some hs1
    obtain rfl := iv_nx hs3
    have hr1 : M.1 + 1 - M0 ≤ R.cells := hr.1
    have hr2 : 1200 * (M.1 + 1 - M0) ≤ R.slots := hr.2
    have hws := lk_w hlk (by simp)
    have ht := lk_t hlk (by simp)
    simp only [lkt, Bool.and_eq_true, decide_eq_true_eq] at ht
    obtain ⟨ha, rfl⟩ := ht
    have hN : nNN a ≤ 100 := by
      have : ∀ a, a < 8 → nNN a ≤ 100 := by decide +kernel
      exact this a ha
    intro H locs ls a1 a2 a3 a4
    have hdf : (List.range (nNN a)).map (fun j => rv g (defaultValue (nYY a j))) = (List.range (nNN a)).map (fun j => defaultValue (nYY a j)) := by
      refine List.map_congr_left fun j _ => ?_
      cases nYY a j <;> rfl
    show W p l e R s m args below meth c H locs (M.1 - M0) (1200 * (M.1 - M0)) Q (F0 m pc ls (st.map (rv g)))
    refine va_new (C := cn a) (T := nTT a) (N := nNN a) (ci := a) hx hb hts (cl_in ha) (nYY a) (cl_ok ha) hown (hts _ (hws _ (by simp [lw]))) (hts _ (hws _ (by simp [lw]))) (hts _ (hws _ (by simp [lw]))) hK a1.2.2.2 wo_D a2 (fun q h => Nat.le_trans hbs h) (cl_at ha) (fs := (List.range (nNN a)).map (fun j => defaultValue (nYY a j))) (fun j hj => by simp [vp_V, hj]) (by omega) (by omega) hd ?_
    intro q H1 hP1 hD1 hS1
    refine W.widen (k := M.1 - M0 + 1) (n := 1200 * (M.1 + 1 - M0)) (Nat.le_refl _) (by omega) ?_
    refine w_nq hz h0 hP1 hD1 fun hq => ?_
    subst hq
    have hce : ce g (.inr (.inr (a, (List.range (nNN a)).map (fun j => defaultValue (nYY a j))))) = .inr (a, (List.range (nNN a)).map (fun j => defaultValue (nYY a j))) := by
      show Sum.inr (a, ((List.range (nNN a)).map (fun j => defaultValue (nYY a j))).map (rv g)) = _
      rw [List.map_map]
      exact congrArg (fun z => Sum.inr (a, z)) hdf
    have h4 := k H1 locs ls (rp_push (x := .inr (.inr (a, (List.range (nNN a)).map (fun j => defaultValue (nYY a j))))) a1 ha h3 (by rw [hce]; exact hP1)) hS1 a3 a4
    have e1 : M.1 - M0 + 1 = M.1 + 1 - M0 := by omega
    rw [e1]
    dsimp only at h4
    rw [List.map_cons, rv_ref h3] at h4
    exact h4
  · cases hs1
end SNC
