/-! THE SMALL MACHINE'S STEPS ARE THE MACHINE'S (wip/whole/gen5.py) -/
abbrev mG : Type := Nat × (Nat → Nat) × Value × (Nat → ClassId) × (Nat → Nat → Nat) × (Nat → ClassId) × Nat × (Nat → Int32)
def gB (g : mG) : Nat := g.1
def gO (g : mG) : Nat → Nat := g.2.1
def g9 (g : mG) : Value := g.2.2.1
def gD (g : mG) : va_G := (g.2.2.2.1, g.2.2.2.2.1)
def gA (g : mG) : Nat → ClassId := g.2.2.2.2.2.1
def gL (g : mG) : Nat := g.2.2.2.2.2.2.1
def gX (g : mG) : Nat → Int32 := g.2.2.2.2.2.2.2
def om (g : mG) (j : Nat) : Value := if j = 9 then g9 g else .ref (gO g j)
def rv (g : mG) (v : Value) : Value := match v with
  | .ref k => if k < 1000 then .ref (gB g + k) else om g (k - 1000)
  | v => v
def rot (a : Nat) : List Int32 := match a with
  | 0 => [999, 999, 99, 23, 1]
  | _ => [-1, 0, 0, 1, 2, 0]
def roS (i : Nat) : List Int32 := match i with
  | 0 => [102, 97, 108, 108, 115, 32, 50, 32, 59, 32, 116, 97, 107, 101, 115, 32, 51, 32, 43, 32, 119, 97, 108, 108, 32, 59, 32, 108, 105, 102, 116, 115, 32, 49, 32, 59, 32]
  | 1 => [102, 97, 108, 108, 115, 32, 116, 97, 107, 101, 115, 32, 108, 105, 102, 116, 115, 32, 111, 114, 32, 97, 110, 100, 32, 110, 111, 116, 32, 104, 111, 117, 114, 32, 119, 97, 108, 108, 32, 109, 111, 114, 101, 32, 104, 101, 97, 112, 32, 103, 97, 116, 101, 32, 112, 97, 115, 115, 101, 115, 32]
  | _ => [40, 41, 59, 43, 45, 42, 60, 61]
def ron (i : Nat) : Nat := match i with
  | 0 => 37
  | 1 => 61
  | _ => 8
def rotx (i : Nat) : String := match i with
  | 0 => "falls 2 ; takes 3 + wall ; lifts 1 ; "
  | 1 => "falls takes lifts or and not hour wall more heap gate passes "
  | _ => "();+-*<="
def ro (g : mG) (k : Nat) : mC :=
  if k = 1000 then .inl (1, gL g, gX g) else if k = 1001 then .inl (1, 5, fun j => (rot 0).getD j 0) else if k = 1002 then .inl (1, 6, fun j => (rot 1).getD j 0)
  else if 1003 ≤ k ∧ k < 1006 then .inr (.inr (8, [.ref (k + 3), .int 0])) else if 1006 ≤ k ∧ k < 1009 then .inl (2, ron (k - 1006), fun j => (roS (k - 1006)).getD j 0) else mdead
def tysm (g : mG) : List (ClassId × FieldType) := [(gA g 9, .int), (gA g 0, .object "ThrownBack$Law"), (gA g 2, .object "ThrownBack$Owner"), (gA g 5, .object "ThrownBack$Sheet")]
def ce (g : mG) (x : mC) : va_E := match x with
  | .inl (_, n, f) => .inl (gA g 9, n, .inl f)
  | .inr (.inl (t, n, q)) => .inl (gA g t, n, .inr (.inr (.inr (.inr (fun j => (q j).map (fun k => gB g + k))))))
  | .inr (.inr (a, fs)) => .inr (a, fs.map (rv g))
def wo (g : mG) (M : mM) : va_W := (List.range M.1).map (fun k => (gB g + k, ce g (M.2 k)))
def Ab (g : mG) : Nat → Prop := fun q => gB g ≤ q
def wk (x : mC) : Prop := match x with
  | .inl (t, _, _) => t = 0
  | .inr (.inl (t, _, q)) => (t = 0 ∨ t = 2 ∨ t = 5) ∧ ∀ j k, q j = some k → k < 1000
  | .inr (.inr (a, _)) => a < 8
def rp (g : mG) (M : mM) (H : Heap) : Prop := (∀ k, k < M.1 → wk (M.2 k)) ∧ (∀ k, M.1 ≤ k → M.2 k = ro g k) ∧ M.1 ≤ 1000 ∧ va_P (gD g) mcl (wo g M) H
theorem ro_arr {g : mG} {k t n : Nat} {f : Nat → Int32} (h : ro g k = .inl (t, n, f)) : (t = 1 ∧ (k = 1000 ∨ k = 1001 ∨ k = 1002)) ∨ (t = 2 ∧ 1006 ≤ k ∧ k < 1009) := by
  unfold ro at h
  split at h
  · simp at h; exact Or.inl ⟨h.1.symm, Or.inl (by assumption)⟩
  · split at h
    · simp at h; exact Or.inl ⟨h.1.symm, Or.inr (Or.inl (by assumption))⟩
    · split at h
      · simp at h; exact Or.inl ⟨h.1.symm, Or.inr (Or.inr (by assumption))⟩
      · split at h
        · simp at h
        · split at h
          · rename_i h2
            simp at h
            exact Or.inr ⟨h.1.symm, h2⟩
          · simp [mdead] at h
theorem ro_obj {g : mG} {k a : Nat} {fs : List Value} (h : ro g k = .inr (.inr (a, fs))) : (a = 8 ∧ 1003 ≤ k ∧ k < 1006 ∧ fs = [.ref (k + 3), .int 0]) ∨ (a = 99 ∧ fs = []) := by
  unfold ro at h
  split at h
  · simp at h
  · split at h
    · simp at h
    · split at h
      · simp at h
      · split at h
        · rename_i h2
          simp at h
          exact Or.inl ⟨h.1.symm, h2.1, h2.2, h.2.symm⟩
        · split at h
          · simp at h
          · simp [mdead] at h
            exact Or.inr ⟨h.1.symm, h.2⟩
theorem ro_q {g : mG} {k : Nat} {x : Nat × Nat × (Nat → Option Nat)} (h : ro g k = .inr (.inl x)) : False := by
  unfold ro at h
  split at h
  · simp at h
  · split at h
    · simp at h
    · split at h
      · simp at h
      · split at h
        · simp at h
        · split at h
          · simp at h
          · simp [mdead] at h
theorem wo_get {g : mG} {M : mM} {k : Nat} (h : k < M.1) : (wo g M)[k]? = some (gB g + k, ce g (M.2 k)) := by
  simp [wo, h]
theorem wo_set {g : mG} {M : mM} {k : Nat} (x : mC) (h : k < M.1) : (wo g M).set k (gB g + k, ce g x) = wo g (mset M k x) := by
  apply List.ext_getElem?
  intro i
  rw [List.getElem?_set]
  by_cases hi : k = i
  · subst hi
    simp [wo, mset, h, va_up]
  · rw [if_neg hi]
    by_cases h2 : i < M.1
    · simp [wo, mset, h2, va_up, Ne.symm hi]
    · simp [wo, mset, h2]
theorem wo_push {g : mG} {M : mM} (x : mC) : wo g M ++ [(gB g + M.1, ce g x)] = wo g (mpush M x) := by
  unfold wo mpush
  simp only
  rw [List.range_succ, List.map_append]
  congr 1
  · refine List.map_congr_left fun k hk => ?_
    have : k < M.1 := List.mem_range.mp hk
    simp [va_up, Nat.ne_of_lt this]
  · simp [va_up]
theorem wo_D {g : mG} {M : mM} : va_D (Ab g) (wo g M) := by
  have key : ∀ (k : Nat) (q : Nat × va_E), (wo g M)[k]? = some q → k < M.1 ∧ q.1 = gB g + k := by
    intro k q h
    have hk : k < M.1 := by
      have := (List.getElem?_eq_some_iff.mp h).1
      simpa [wo] using this
    rw [wo_get hk] at h
    cases h
    exact ⟨hk, rfl⟩
  refine ⟨fun i j p q hp hq e => ?_, fun k q h => ?_⟩
  · have h1 := (key i p hp).2
    have h2 := (key j q hq).2
    omega
  · have := (key k q h).2
    show gB g ≤ q.1
    omega
theorem rp_in {g : mG} {M : mM} {H : Heap} (h : rp g M H) {q : Nat} (hw : ∀ k, M.2 q = ro g k → k = q → False) : q < M.1 := by
  by_cases hq : q < M.1
  · exact hq
  · exact absurd (h.2.1 q (Nat.le_of_not_lt hq)) (fun e => hw q e rfl)
theorem rp_obj {g : mG} {M : mM} {H : Heap} (h : rp g M H) {q a : Nat} {fs : List Value} (e : M.2 q = .inr (.inr (a, fs))) (ha : a < 8) : q < M.1 := by
  refine rp_in h fun k h1 h2 => ?_
  subst h2
  rw [e] at h1
  rcases ro_obj h1.symm with h3 | h3 <;> omega
theorem rp_ar {g : mG} {M : mM} {H : Heap} (h : rp g M H) {q n : Nat} {f : Nat → Int32} (e : M.2 q = .inl (0, n, f)) : q < M.1 := by
  refine rp_in h fun k h1 h2 => ?_
  subst h2
  rw [e] at h1
  rcases ro_arr h1.symm with h3 | h3 <;> omega
theorem rp_qr {g : mG} {M : mM} {H : Heap} (h : rp g M H) {q : Nat} {x : Nat × Nat × (Nat → Option Nat)} (e : M.2 q = .inr (.inl x)) : q < M.1 := by
  refine rp_in h fun k h1 h2 => ?_
  subst h2
  rw [e] at h1
  exact ro_q h1.symm
theorem rp_set {g : mG} {M : mM} {H H1 : Heap} (h : rp g M H) {q : Nat} {x : mC} (hq : q < M.1) (hx : wk x) (hP : va_P (gD g) mcl ((wo g M).set q (gB g + q, ce g x)) H1) : rp g (mset M q x) H1 := by
  refine ⟨fun k hk => ?_, fun k hk => ?_, h.2.2.1, by rw [← wo_set x hq]; exact hP⟩
  · show wk (va_up M.2 q x k)
    by_cases e : k = q
    · subst e; rw [va_up_self]; exact hx
    · rw [va_up_ne _ _ e]; exact h.1 k hk
  · show va_up M.2 q x k = _
    have : k ≠ q := by
      intro e
      subst e
      exact absurd hk (by show ¬ M.1 ≤ k; omega)
    rw [va_up_ne _ _ this]
    exact h.2.1 k hk
theorem rp_push {g : mG} {M : mM} {H H1 : Heap} (h : rp g M H) {x : mC} (hx : wk x) (h1 : M.1 < 1000) (hP : va_P (gD g) mcl (wo g M ++ [(gB g + M.1, ce g x)]) H1) : rp g (mpush M x) H1 := by
  refine ⟨fun k hk => ?_, fun k hk => ?_, h1, by rw [← wo_push x]; exact hP⟩
  · show wk (va_up M.2 M.1 x k)
    by_cases e : k = M.1
    · subst e; rw [va_up_self]; exact hx
    · rw [va_up_ne _ _ e]
      have hk2 : k < M.1 + 1 := hk
      exact h.1 k (by omega)
  · show va_up M.2 M.1 x k = _
    have hk2 : M.1 + 1 ≤ k := hk
    rw [va_up_ne _ _ (by omega)]
    exact h.2.1 k (by omega)
-- locals
def asc (g : mG) (L : List Value) : List (Nat × Value) := (List.range L.length).filterMap (fun i => match L[i]? with
  | some v => if v = .null then none else some (i, rv g v)
  | none => none)
def lr (g : mG) (ls : Array Slot) (L : List Value) : Prop := lv_has ls L.length (asc g L)
theorem asc_mem {g : mG} {L : List Value} {q : Nat × Value} : q ∈ asc g L ↔ ∃ v, L[q.1]? = some v ∧ v ≠ .null ∧ q.2 = rv g v := by
  constructor
  · intro h
    obtain ⟨i, hi, he⟩ := List.mem_filterMap.mp h
    cases hv : L[i]? with
    | none => rw [hv] at he; cases he
    | some v =>
      rw [hv] at he
      by_cases hn : v = .null
      · simp [hn] at he
      · simp [hn] at he
        subst he
        exact ⟨v, hv, hn, rfl⟩
  · rintro ⟨v, h1, h2, h3⟩
    refine List.mem_filterMap.mpr ⟨q.1, List.mem_range.mpr (List.getElem?_eq_some_iff.mp h1).1, ?_⟩
    rw [h1]
    simp only [if_neg h2]
    rw [← h3]
theorem lr_at {g : mG} {ls : Array Slot} {L : List Value} (h : lr g ls L) {i : Nat} {v : Value} (hi : L[i]? = some v) (hn : v ≠ .null) : ls[i]? = some (.val (rv g v)) := h.2.2 (i, rv g v) (asc_mem.mpr ⟨v, hi, hn, rfl⟩)
theorem rv_cat {g : mG} (h9 : g9 g = .null ∨ ∃ a, g9 g = .ref a) (v : Value) : (rv g v).category = v.category := by
  cases v with
  | ref k =>
    show (if k < 1000 then Value.ref (gB g + k) else om g (k - 1000)).category = 1
    by_cases h1 : k < 1000
    · rw [if_pos h1]; rfl
    · rw [if_neg h1]
      unfold om
      by_cases h2 : k - 1000 = 9
      · rw [if_pos h2]
        rcases h9 with h | ⟨a, h⟩ <;> rw [h] <;> rfl
      · rw [if_neg h2]; rfl
  | _ => rfl
theorem mprev_spec {L : List Value} {i j : Nat} {w : Value} (h : mprev L i = false) (hj : L[j]? = some w) (e : j + 1 = i) : w.category ≠ 2 := by
  subst e
  simp only [mprev, hj] at h
  simpa using h
theorem lr_s1 {g : mG} (h9 : g9 g = .null ∨ ∃ a, g9 g = .ref a) {ls : Array Slot} {L : List Value} {i : Nat} {v : Value} (hp : mprev L i = false) (h : lv_has ls L.length ((i, rv g v) :: (asc g L).filter (fun q => !(q.1 == i) && !(q.1 + 1 == i && q.2.category == 2)))) : lr g ls (L.set i v) := by
  refine ⟨by rw [List.length_set]; exact h.1, h.2.1, fun q hq => h.2.2 q ?_⟩
  obtain ⟨w, h1, h2, h3⟩ := asc_mem.mp hq
  by_cases e : q.1 = i
  · rw [e, List.getElem?_set_self'] at h1
    cases hL : L[i]? with
    | none => rw [hL] at h1; cases h1
    | some z =>
      rw [hL] at h1
      simp at h1
      rw [← h1] at h3
      exact List.mem_cons.mpr (Or.inl (Prod.ext e h3))
  · rw [List.getElem?_set_ne (Ne.symm e)] at h1
    refine List.mem_cons_of_mem _ (List.mem_filter.mpr ⟨asc_mem.mpr ⟨w, h1, h2, h3⟩, ?_⟩)
    by_cases e2 : q.1 + 1 = i
    · have := mprev_spec hp h1 e2
      rw [h3, rv_cat h9]
      simp [e, this]
    · simp [e, e2]
theorem lr_s2 {g : mG} (h9 : g9 g = .null ∨ ∃ a, g9 g = .ref a) {ls : Array Slot} {L : List Value} {i : Nat} {v : Value} (hp : mprev L i = false) (h : lv_has ls L.length ((i, rv g v) :: (asc g L).filter (fun q => !(q.1 == i) && (!(q.1 == i + 1) && !(q.1 + 1 == i && q.2.category == 2))))) : lr g ls ((L.set i v).set (i + 1) .null) := by
  refine ⟨by rw [List.length_set, List.length_set]; exact h.1, h.2.1, fun q hq => h.2.2 q ?_⟩
  obtain ⟨w, h1, h2, h3⟩ := asc_mem.mp hq
  by_cases e0 : q.1 = i + 1
  · rw [e0, List.getElem?_set_self'] at h1
    cases hL : (L.set i v)[i + 1]? with
    | none => rw [hL] at h1; cases h1
    | some z =>
      rw [hL] at h1
      simp at h1
      exact absurd h1.symm h2
  · rw [List.getElem?_set_ne (Ne.symm e0)] at h1
    by_cases e : q.1 = i
    · rw [e, List.getElem?_set_self'] at h1
      cases hL : L[i]? with
      | none => rw [hL] at h1; cases h1
      | some z =>
        rw [hL] at h1
        simp at h1
        rw [← h1] at h3
        exact List.mem_cons.mpr (Or.inl (Prod.ext e h3))
    · rw [List.getElem?_set_ne (Ne.symm e)] at h1
      refine List.mem_cons_of_mem _ (List.mem_filter.mpr ⟨asc_mem.mpr ⟨w, h1, h2, h3⟩, ?_⟩)
      by_cases e2 : q.1 + 1 = i
      · have := mprev_spec hp h1 e2
        rw [h3, rv_cat h9]
        simp [e, e0, this]
      · simp [e, e0, e2]
-- what lies outside: the script, the static rows, the texts
def rof (g : mG) (U : State) (H : Heap) : Prop :=
  va_T .int (gO g 0) (gL g) (fun j => .int (gX g j)) (Ab g) U H ∧ va_Z "ThrownBack" "MOST_PUT" "[I" (.ref (gO g 1)) (Ab g) U H ∧ va_T .int (gO g 1) 5 (fun j => .int ((rot 0).getD j 0)) (Ab g) U H ∧
  va_Z "ThrownBack$Owner" "KIND_ABOVE" "[I" (.ref (gO g 2)) (Ab g) U H ∧ va_T .int (gO g 2) 6 (fun j => .int ((rot 1).getD j 0)) (Ab g) U H ∧ va_Z "java/lang/String" "COMPACT_STRINGS" "Z" (.int 1) (Ab g) U H ∧
  va_Z "jdk/internal/util/Preconditions" "SIOOBE_FORMATTER" "Ljava/util/function/BiFunction;" (g9 g) (Ab g) U H ∧
  vk_S 3 [ron 0, ron 1, ron 2] [roS 0, roS 1, roS 2] (fun i => gO g (3 + i)) (fun i => gO g (6 + i)) (Ab g) U H ∧
  (vk_R "ThrownBack" 50 (rotx 0) (gO g 3) U ∧ vk_R "ThrownBack$Reader" 95 (rotx 1) (gO g 4) U ∧ vk_R "ThrownBack$Reader" 109 (rotx 2) (gO g 5) U) ∧
  (va_AO "ThrownBack$Law" U ∧ va_AO "ThrownBack$Owner" U ∧ va_AO "ThrownBack$Sheet" U) ∧
  (va_Nw (.methodLinkNest "ThrownBack$Road" 36 ⟨"ThrownBack$Owner", "<init>", "()V"⟩ "ThrownBack") U ∧ va_Nw (.methodLinkNest "ThrownBack" 24 ⟨"ThrownBack$Reader", "<init>", "()V"⟩ "ThrownBack") U ∧ va_Nw (.methodLinkNest "ThrownBack" 43 ⟨"ThrownBack$Lots", "<init>", "()V"⟩ "ThrownBack") U ∧ va_Nw (.methodLinkNest "ThrownBack" 48 ⟨"ThrownBack$Law", "<init>", "()V"⟩ "ThrownBack") U ∧ va_Nw (.methodLinkNest "ThrownBack" 49 ⟨"ThrownBack$Sheet", "<init>", "()V"⟩ "ThrownBack") U)
theorem rof_kept {g : mG} {U : State} {H H1 : Heap} (h : rof g U H) (hq : ∀ a : Nat, a < H.size → ¬ Ab g a → H1[a]? = H[a]?) : rof g U H1 := by
  obtain ⟨a1, a2, a3, a4, a5, a6, a7, a8, a9⟩ := h
  exact ⟨a1.kept hq, a2.kept hq, a3.kept hq, a4.kept hq, a5.kept hq, a6.kept hq, a7.kept hq, a8.kept hq, a9⟩
theorem rof_warm {g : mG} {s U : State} {H : Heap} (hW : s.WarmedH U.vm) (h : rof g s H) : rof g U H := by
  obtain ⟨a1, a2, a3, a4, a5, a6, a7, a8, ⟨b1, b2, b3⟩, ⟨c1, c2, c3⟩, ⟨e1, e2, e3, e4, e5⟩⟩ := h
  have hv := hW.alike
  exact ⟨a1.moved hv, a2.moved hv, a3.moved hv, a4.moved hv, a5.moved hv, a6.moved hv, a7.moved hv, a8.moved hv, ⟨b1.warm hW, b2.warm hW, b3.warm hW⟩, ⟨c1.moved hv, c2.moved hv, c3.moved hv⟩, ⟨va_Nw.warmM hW e1, va_Nw.warmM hW e2, va_Nw.warmM hW e3, va_Nw.warmM hW e4, va_Nw.warmM hW e5⟩⟩
theorem rof_same {g : mG} {s U : State} {H : Heap} (hv : U.vm = s.vm) (h : rof g s H) : rof g U H := by
  obtain ⟨a1, a2, a3, a4, a5, a6, a7, a8, ⟨b1, b2, b3⟩, ⟨c1, c2, c3⟩, ⟨e1, e2, e3, e4, e5⟩⟩ := h
  have hv' : s.vm.Alike U.vm := by rw [hv]; exact Vm.Alike.refl _
  exact ⟨a1.moved hv', a2.moved hv', a3.moved hv', a4.moved hv', a5.moved hv', a6.moved hv', a7.moved hv', a8.moved hv', ⟨b1.same hv, b2.same hv, b3.same hv⟩, ⟨c1.moved hv', c2.moved hv', c3.moved hv'⟩, ⟨va_Nw.same rfl hv.symm e1, va_Nw.same rfl hv.symm e2, va_Nw.same rfl hv.symm e3, va_Nw.same rfl hv.symm e4, va_Nw.same rfl hv.symm e5⟩⟩
-- a frame of method y, that may call d deep
def cx (g : mG) (p : Program) (R : Room) (s : State) (m : MethodId) (meth : Method) (c : Code) (y d : Nat) (args : Array Value) : Prop :=
  p.tables.exec = Jvm.exec ∧ c.code = bt y ∧ meth.sig.returnType = mrt y ∧ c.maxLocals = mml y ∧ s.vm.findClass (cn (mow y)) = some m.cls ∧ (∀ w ∈ WS, w.before args s = true) ∧ meth.locks = false ∧ ((myn y).name = "<init>" → meth.name = "<init>") ∧
  va_K (gD g) mcl (tysm g) s ∧ rof g s s.heap ∧ d + 1 ≤ R.frames ∧ 64 * (d + 1) ≤ R.locals ∧ gB g ≤ s.heap.size ∧ (g9 g = .null ∨ ∃ a, g9 g = .ref a)
abbrev mR : Type := Nat × List Value × List Value × mM
def Kn (g : mG) (p : Program) (l : Launch) (e : Env) (R : Room) (s : State) (m : MethodId) (args : Array Value) (below : List Frame) (meth : Method) (c : Code) (y M0 : Nat) (Q : State → Prop) (r : mR) : Prop :=
  ∀ (H : Heap) (locs : List Loc) (ls : Array Slot), rp g r.2.2.2 H → va_S (Ab g) s.heap H locs → lr g ls r.2.1 → r.2.1.length = mml y →
    W p l e R s m args below meth c H locs (r.2.2.2.1 - M0) (1200 * (r.2.2.2.1 - M0)) Q (F0 m r.1 ls (r.2.2.1.map (rv g)))
theorem gt_some {α : Type} {P : Prop} [Decidable P] {x : Option α} {r : α} (h : (if P then x else none) = some r) : P ∧ x = some r := by
  by_cases hP : P
  · rw [if_pos hP] at h; exact ⟨hP, h⟩
  · rw [if_neg hP] at h; cases h
