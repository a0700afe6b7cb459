/-! BOUNDS; THE BEST SO FAR, AS THE MODEL KEEPS IT (wip/whole/gen39.py) -/
theorem addT {a b : Int32} (h1 : -1000000000 ≤ a.toInt) (h2 : a.toInt ≤ 1000000000) (h3 : -1000000000 ≤ b.toInt) (h4 : b.toInt ≤ 1000000000) : (a + b).toInt = a.toInt + b.toInt := by
  rw [Int32.toInt_add, Int.bmod_eq_of_le (by omega) (by omega)]
theorem subT {a b : Int32} (h1 : -1000000000 ≤ a.toInt) (h2 : a.toInt ≤ 1000000000) (h3 : -1000000000 ≤ b.toInt) (h4 : b.toInt ≤ 1000000000) : (a - b).toInt = a.toInt - b.toInt := by
  rw [Int32.toInt_sub, Int.bmod_eq_of_le (by omega) (by omega)]
theorem minT (a b : Int32) : (i_min a b).toInt = min a.toInt b.toInt := by
  unfold i_min
  by_cases h : b < a
  · rw [if_pos h]; rw [Int32.lt_iff_toInt_lt] at h; omega
  · rw [if_neg h]; rw [Int32.lt_iff_toInt_lt] at h; omega
theorem maxT (a b : Int32) : (i_max a b).toInt = max a.toInt b.toInt := by
  unfold i_max
  by_cases h : a < b
  · rw [if_pos h]; rw [Int32.lt_iff_toInt_lt] at h; omega
  · rw [if_neg h]; rw [Int32.lt_iff_toInt_lt] at h; omega
def WB (n : Nat) (R : tR) : Prop := (∀ j, j < n → 0 ≤ (R 2 j).toInt ∧ (R 2 j).toInt ≤ 999 ∧ 0 ≤ (R 4 j).toInt ∧ (R 4 j).toInt ≤ 99 ∧ 0 ≤ (R 1 j).toInt ∧ (R 1 j).toInt ≤ 9) ∧ ∀ p, p < 6 → 0 ≤ (R 9 p).toInt ∧ (R 9 p).toInt ≤ 999
theorem z0 : 0 ≤ (0 : Int32).toInt ∧ (0 : Int32).toInt ≤ 999 := by decide
theorem k999 : (999 : Int32).toInt = 999 := rfl
theorem sqT {R Lr : tR} {z : Nat → Nat} {p : Nat} {a b c w : Int32} : 0 ≤ (sq R Lr z p a b c w).toInt ∧ (sq R Lr z p a b c w).toInt ≤ 99 := by
  have h := sq_rng (R := R) (Lr := Lr) (z := z) (p := p) (a := a) (b := b) (c := c) (w := w)
  simp only [Int32.le_iff_toInt_le] at h
  exact h
section
variable {n : Nat} {A : Nat → tR} {r : Nat} {Lr : tR} {z : Nat → Nat}
theorem WB.u9 (h : WB n (A r)) {p : Nat} {v : Int32} (h1 : 0 ≤ v.toInt) (h2 : v.toInt ≤ 999) : WB n (u3 A r 9 p v r) := by
  refine ⟨fun j hj => ?_, fun q hq => ?_⟩
  · simp only [u3_ap, show ¬ (2 = 9) by decide, show ¬ (4 = 9) by decide, show ¬ (1 = 9) by decide, false_and, and_false, if_false]
    exact h.1 j hj
  · rw [u3_ap]
    split
    · exact ⟨h1, h2⟩
    · exact h.2 q hq
theorem WB.u2 (h : WB n (A r)) {i : Nat} {v : Int32} (h1 : 0 ≤ v.toInt) (h2 : v.toInt ≤ 999) : WB n (u3 A r 2 i v r) := by
  refine ⟨fun j hj => ?_, fun q hq => ?_⟩
  · simp only [u3_ap, show ¬ (4 = 2) by decide, show ¬ (1 = 2) by decide, false_and, and_false, if_false]
    have := h.1 j hj
    split
    · exact ⟨h1, h2, this.2.2⟩
    · exact this
  · rw [u3_ap, if_neg (by omega)]; exact h.2 q hq
theorem WB.uo (h : WB n (A r)) {i k : Nat} {v : Int32} (hi : ¬ (i = 1 ∨ i = 2 ∨ i = 4 ∨ i = 9)) : WB n (u3 A r i k v r) := by
  refine ⟨fun j hj => ?_, fun q hq => ?_⟩
  · rw [u3_ap, if_neg (by omega), u3_ap, if_neg (by omega), u3_ap, if_neg (by omega)]; exact h.1 j hj
  · rw [u3_ap, if_neg (by omega)]; exact h.2 q hq
theorem sfA_wb {f : Int32} (hf : 0 ≤ f.toInt ∧ f.toInt ≤ 99) : ∀ i, i ≤ 6 → WB n (A r) → WB n (sfA A r f i r)
  | 0, _, h => h
  | i + 1, hi, h => by
    have h1 := sfA_wb hf i (by omega) h
    have h2 := h1.2 i (by omega)
    simp only [sfA]
    have e := addT (a := sfA A r f i r 9 i) (b := f) (by omega) (by omega) (by omega) (by omega)
    exact h1.u9 (by rw [minT, e, k999]; omega) (by rw [minT, k999]; omega)
theorem plS_wb (hn12 : n ≤ 12) {s : Int32} {p : Nat} (hp : p < 6) {q : (Nat → tR) × Int32} (h : WB n (q.1 r)) (hc : 0 ≤ q.2.toInt ∧ q.2.toInt ≤ 999) (hn : q.1 r 12 0 = nI n) : WB n ((plS Lr z r s p q).1 r) ∧ 0 ≤ (plS Lr z r s p q).2.toInt ∧ (plS Lr z r s p q).2.toInt ≤ 999 := by
  have h9 := h.2 p hp
  have e := addT (a := q.1 r 9 p) (b := q.2) (by omega) (by omega) (by omega) (by omega)
  have eh : 0 ≤ (i_min 999 (q.1 r 9 p + q.2)).toInt ∧ (i_min 999 (q.1 r 9 p + q.2)).toInt ≤ 999 := by rw [minT, e, k999]; omega
  have h1 : WB n (u3 q.1 r 9 p 0 r) := h.u9 (by decide) (by decide)
  have hn1 : u3 q.1 r 9 p 0 r 12 0 = nI n := by rw [u3_ap, if_neg (by omega), hn]
  generalize hh_ : i_min 999 (q.1 r 9 p + q.2) = has at eh
  by_cases hv : 0 ≤ 2 * nI p + s ∧ 2 * nI p + s < nI n
  · obtain ⟨j, hj, ej⟩ := own_ix hv hn12
    have hj4 := h1.1 j hj
    by_cases h6 : u3 q.1 r 9 p 0 r 6 j = 1
    · rw [plS_lift (by rw [hn1]; exact hv) ej (by omega) h6, hh_]
      have es := sqT (R := u3 q.1 r 9 p 0 r) (Lr := Lr) (z := z) (p := 2) (a := nI j) (b := u3 q.1 r 9 p 0 r 1 j) (c := u3 q.1 r 9 p 0 r 3 j) (w := has)
      generalize sq (u3 q.1 r 9 p 0 r) Lr z 2 (nI j) (u3 q.1 r 9 p 0 r 1 j) (u3 q.1 r 9 p 0 r 3 j) has = sv_ at es
      refine ⟨h1.uo (by decide), ?_⟩
      have em := minT has sv_
      have ed := subT (a := has) (b := i_min has sv_) (by omega) (by omega) (by omega) (by omega)
      show 0 ≤ (has - i_min has sv_).toInt ∧ (has - i_min has sv_).toInt ≤ 999
      omega
    · rw [plS_wall (by rw [hn1]; exact hv) ej (by omega) h6, hh_]
      refine ⟨?_, z0⟩
      have em := minT (u3 q.1 r 9 p 0 r 4 j) has
      have ea := addT (a := u3 q.1 r 9 p 0 r 2 j) (b := has) (by omega) (by omega) (by omega) (by omega)
      have ed := subT (a := u3 q.1 r 9 p 0 r 2 j + has) (b := i_min (u3 q.1 r 9 p 0 r 4 j) has) (by omega) (by omega) (by omega) (by omega)
      have h2 : WB n (u3 (u3 q.1 r 9 p 0) r 2 j (i_min 999 (u3 q.1 r 9 p 0 r 2 j + has - i_min (u3 q.1 r 9 p 0 r 4 j) has)) r) := h1.u2 (by rw [minT, ed, k999]; omega) (by rw [minT, k999]; omega)
      exact h2.uo (by decide)
  · rw [plS_out (by rw [hn1]; exact hv)]
    exact ⟨h1.uo (by decide), z0⟩
theorem plR_wb (hn12 : n ≤ 12) {s : Int32} : ∀ (k i : Nat), i + k ≤ 6 → ∀ {q : (Nat → tR) × Int32}, WB n (q.1 r) → 0 ≤ q.2.toInt ∧ q.2.toInt ≤ 999 → q.1 r 12 0 = nI n → WB n ((plR Lr z r s k i q).1 r)
  | 0, _, _, _, h, _, _ => h
  | k + 1, i, hi, _, h, hc, hn => plR_wb hn12 k (i + 1) (by omega) (plS_wb hn12 (by omega) h hc hn).1 (plS_wb hn12 (by omega) h hc hn).2 (by rw [plS_ap _ _ _ _ _ _ _ _ _ (by omega), hn])
theorem plA_wb (hn12 : n ≤ 12) {s : Int32} (h : WB n (A r)) (hn : A r 12 0 = nI n) : WB n (plA A r Lr z s r) := by
  have q := plR_wb (Lr := Lr) (z := z) hn12 (s := s) 6 0 (by omega) (q := (A, 0)) h z0 hn
  show WB n (u3 _ _ _ _ _ _)
  exact q.uo (by decide)
theorem psA_wb (hn12 : n ≤ 12) (h : WB n (A r)) (hn : A r 12 0 = nI n) : ∀ i, WB n (psA A r Lr z i r)
  | 0 => h
  | i + 1 => by
    have h1 := psA_wb hn12 h hn i
    simp only [psA]
    split
    · exact plA_wb hn12 h1 (by rw [psA_ap _ _ _ _ _ _ _ (by omega), hn])
    · exact h1
theorem shA_wb (hn12 : n ≤ 12) (h : WB n (A r)) {j : Nat} (hj : j < n) : WB n (shA A r j Lr z r) := by
  have h1 : WB n (sh1 A r j Lr z r) := h.uo (by decide)
  have h2 := h1.1 j hj
  have h9 := h1.2 (j / 2) (by omega)
  unfold shA
  split
  · have e := addT (a := sh1 A r j Lr z r 9 (j / 2)) (b := sh1 A r j Lr z r 2 j) (by omega) (by omega) (by omega) (by omega)
    have h3 : WB n (u3 (sh1 A r j Lr z) r 9 (j / 2) (i_min 999 (sh1 A r j Lr z r 9 (j / 2) + sh1 A r j Lr z r 2 j)) r) := h1.u9 (by rw [minT, e, k999]; omega) (by rw [minT, k999]; omega)
    exact h3.u2 (by decide) (by decide)
  · have h3 : WB n (u3 (sh1 A r j Lr z) r 3 j (i_min 999 (sh1 A r j Lr z r 3 j + sh1 A r j Lr z r 2 j)) r) := h1.uo (by decide)
    exact h3.u2 (by decide) (by decide)
theorem osA_wb (hn12 : n ≤ 12) (h : WB n (A r)) : ∀ i, i ≤ n → WB n (osA A r Lr z i r)
  | 0, _ => h
  | i + 1, hi => by
    have h1 := osA_wb hn12 h i (by omega)
    simp only [osA]
    split
    · exact h1
    · split
      · exact shA_wb hn12 h1 hi
      · exact h1
theorem blA_wb (h : WB n (A r)) : ∀ i, WB n (blA A r i r)
  | 0 => h
  | i + 1 => by
    have h1 := blA_wb h i
    simp only [blA]
    split
    · exact h1
    · exact h1.uo (by decide)
theorem hrA_wb (hn12 : n ≤ 12) {m : Nat} (h : WB n (A r)) (hn : A r 12 0 = nI n) : WB n (hrA A r Lr z n m r) := by
  have h1 := blA_wb (osA_wb (Lr := Lr) (z := z) hn12 (psA_wb (Lr := Lr) (z := z) hn12 (sfA_wb (f := sq (A r) Lr z 0 0 0 0 0) sqT 6 (Nat.le_refl _) h) (by rw [sfA_12 _ _ _ _ _ _ _ (by omega), hn]) m) n (Nat.le_refl _)) n
  show WB n (u3 _ _ _ _ _ _)
  exact h1.uo (by decide)
theorem hrs_wb (hn12 : n ≤ 12) {m : Nat} (h : WB n (A r)) (hn : A r 12 0 = nI n) : ∀ i, WB n (hrs A r Lr z n m i r)
  | 0 => h
  | i + 1 => hrA_wb hn12 (hrs_wb hn12 h hn i) (by rw [hrs_ap _ _ _ _ _ _ _ _ (by omega), hn])
-- minutes, hours blocked
def TB (n c : Nat) (R : tR) : Prop := ∀ j, j < n → 0 ≤ (R 7 j).toInt ∧ (R 7 j).toInt ≤ 198 * c ∧ 0 ≤ (R 8 j).toInt ∧ (R 8 j).toInt ≤ c
theorem half99 {v : Int32} (h : 0 ≤ v.toInt ∧ v.toInt ≤ 99) : 0 ≤ (v / 2).toInt ∧ (v / 2).toInt ≤ 49 := by
  obtain ⟨c, hc, rfl⟩ := nI_of (x := v) (by rw [Int32.lt_iff_toInt_lt, show (0 : Int32).toInt = 0 from rfl]; omega)
  rw [nI_toInt hc] at h
  rw [show (nI c / 2 : Int32) = nI (c / 2) from pk_div (a := c) (d := 2) hc (by decide) (by decide), nI_toInt (by omega)]
  omega
theorem otkT {k m v : Int32} (hv : 0 ≤ v.toInt ∧ v.toInt ≤ 99) (hm : 0 ≤ m.toInt ∧ m.toInt ≤ 9) : 1 ≤ (otk k m v).toInt ∧ (otk k m v).toInt ≤ 198 := by
  have k1 : (1 : Int32).toInt = 1 := rfl
  have k2 : (2 : Int32).toInt = 2 := rfl
  have hh := half99 hv
  unfold otk
  split
  · rw [maxT, k1]; omega
  · split
    · rw [maxT, k1, subT (by omega) (by omega) (by omega) (by omega)]; omega
    · split
      · have := addT (a := v) (b := 2) (by omega) (by omega) (by omega) (by omega)
        have hk : 1 ≤ (v + 2).toInt ∧ (v + 2).toInt ≤ 198 := by omega
        exact hk
      · split
        · have : (v * 2).toInt = v.toInt * 2 := by rw [Int32.toInt_mul, k2, Int.bmod_eq_of_le (by omega) (by omega)]
          rw [maxT, k1]; omega
        · rw [maxT, k1]; omega
theorem shA_7 {i j : Nat} : shA A r i Lr z r 7 j = if j = i then A r 7 i + otk (A r 0 i) (A r 1 i) (sq (A r) Lr z 1 (nI i) (A r 1 i) (A r 3 i) (A r 2 i)) else A r 7 j := by
  unfold shA
  split
  · rw [u3_ap, if_neg (by omega), u3_ap, if_neg (by omega), sh1, u3_ap]
    by_cases e : j = i
    · rw [if_pos ⟨rfl, rfl, e⟩, if_pos e]
    · rw [if_neg (fun q => e q.2.2), if_neg e]
  · rw [u3_ap, if_neg (by omega), u3_ap, if_neg (by omega), sh1, u3_ap]
    by_cases e : j = i
    · rw [if_pos ⟨rfl, rfl, e⟩, if_pos e]
    · rw [if_neg (fun q => e q.2.2), if_neg e]
theorem shA_8 {i j : Nat} : shA A r i Lr z r 8 j = A r 8 j := by
  rw [shA_ap]
  omega
theorem shA_1 {i j : Nat} : shA A r i Lr z r 1 j = A r 1 j := by
  rw [shA_ap]
  omega
theorem osA_tb {c : Nat} (hc : c ≤ 100000) (h : TB n c (A r)) (hw : ∀ j, j < n → 0 ≤ (A r 1 j).toInt ∧ (A r 1 j).toInt ≤ 9) : ∀ i, i ≤ n → ∀ j, j < n → (i ≤ j → osA A r Lr z i r 7 j = A r 7 j) ∧ 0 ≤ (osA A r Lr z i r 7 j).toInt ∧ (osA A r Lr z i r 7 j).toInt ≤ 198 * (c + 1)
  | 0, _, j, hj => ⟨fun _ => rfl, (h j hj).1, by have := (h j hj).2.1; show (A r 7 j).toInt ≤ _; omega⟩
  | i + 1, hi, j, hj => by
    have h1 := osA_tb hc h hw i (by omega) j hj
    simp only [osA]
    split
    · exact ⟨fun q => h1.1 (by omega), h1.2⟩
    · split
      · rw [shA_7]
        by_cases e : j = i
        · subst e
          have e7 := h1.1 (Nat.le_refl _)
          have b7 := h j hj
          rw [if_pos rfl, e7]
          have m1 : osA A r Lr z j r 1 j = A r 1 j := osA_ap _ _ _ _ _ _ _ (by omega) _
          have t := otkT (k := osA A r Lr z j r 0 j) (m := osA A r Lr z j r 1 j) (sqT (R := osA A r Lr z j r) (Lr := Lr) (z := z) (p := 1) (a := nI j) (b := osA A r Lr z j r 1 j) (c := osA A r Lr z j r 3 j) (w := osA A r Lr z j r 2 j)) (by rw [m1]; exact hw j hj)
          generalize otk (osA A r Lr z j r 0 j) (osA A r Lr z j r 1 j) (sq (osA A r Lr z j r) Lr z 1 (nI j) (osA A r Lr z j r 1 j) (osA A r Lr z j r 3 j) (osA A r Lr z j r 2 j)) = tk at t
          have ea := addT (a := A r 7 j) (b := tk) (by omega) (by omega) (by omega) (by omega)
          refine ⟨fun q => absurd q (by omega), ?_, ?_⟩
          · omega
          · omega
        · rw [if_neg e]
          exact ⟨fun q => h1.1 (by omega), h1.2⟩
      · exact ⟨fun q => h1.1 (by omega), h1.2⟩
theorem blA_tb {c : Nat} (hc : c ≤ 100000) (h : ∀ j, j < n → 0 ≤ (A r 8 j).toInt ∧ (A r 8 j).toInt ≤ c) : ∀ i, i ≤ n → ∀ j, j < n → (i ≤ j → blA A r i r 8 j = A r 8 j) ∧ 0 ≤ (blA A r i r 8 j).toInt ∧ (blA A r i r 8 j).toInt ≤ c + 1
  | 0, _, j, hj => ⟨fun _ => rfl, (h j hj).1, by have := (h j hj).2; show (A r 8 j).toInt ≤ _; omega⟩
  | i + 1, hi, j, hj => by
    have h1 := blA_tb hc h i (by omega) j hj
    simp only [blA]
    split
    · exact ⟨fun q => h1.1 (by omega), h1.2⟩
    · rw [u3_ap]
      by_cases e : j = i
      · subst e
        rw [if_pos ⟨rfl, rfl, rfl⟩, h1.1 (Nat.le_refl _)]
        have b := h j hj
        have k1 : (1 : Int32).toInt = 1 := rfl
        have ea := addT (a := A r 8 j) (b := 1) (by omega) (by omega) (by omega) (by omega)
        exact ⟨fun q => absurd q (by omega), by omega, by omega⟩
      · rw [if_neg (fun q => e q.2.2)]
        exact ⟨fun q => h1.1 (by omega), h1.2⟩
theorem hrA_tb {c : Nat} (hc : c ≤ 100000) {m : Nat} (h : TB n c (A r)) (hw : ∀ j, j < n → 0 ≤ (A r 1 j).toInt ∧ (A r 1 j).toInt ≤ 9) : TB n (c + 1) (hrA A r Lr z n m r) := by
  intro j hj
  have e0 : ∀ a b, ¬ (a = 9 ∨ a = 2 ∨ a = 12) → psA (snA A r Lr z) r Lr z m r a b = A r a b := fun a b q => by rw [psA_ap _ _ _ _ _ _ _ (by omega), snA_ap _ _ _ _ _ _ _ (by omega)]
  have h1 : TB n c (psA (snA A r Lr z) r Lr z m r) := fun j hj => by rw [e0 7 j (by decide), e0 8 j (by decide)]; exact h j hj
  have h2 := osA_tb (Lr := Lr) (z := z) hc h1 (fun j hj => by rw [e0 1 j (by decide)]; exact hw j hj) n (Nat.le_refl _) j hj
  have h3 := blA_tb (A := osA (psA (snA A r Lr z) r Lr z m) r Lr z n) (r := r) hc (fun j hj => by rw [osA_ap _ _ _ _ _ _ _ (by omega), e0 8 j (by decide)]; exact (h j hj).2.2) n (Nat.le_refl _) j hj
  show 0 ≤ (u3 _ _ _ _ _ _ 7 j).toInt ∧ (u3 _ _ _ _ _ _ 7 j).toInt ≤ _ ∧ 0 ≤ (u3 _ _ _ _ _ _ 8 j).toInt ∧ (u3 _ _ _ _ _ _ 8 j).toInt ≤ _
  rw [u3_ap, if_neg (by omega), u3_ap, if_neg (by omega), blA_ap _ _ _ _ _ (by omega)]
  exact ⟨h2.2.1, h2.2.2, h3.2.1, by have := h3.2.2; omega⟩
theorem hrs_tb {m : Nat} (h : TB n 0 (A r)) (hw : ∀ j, j < n → 0 ≤ (A r 1 j).toInt ∧ (A r 1 j).toInt ≤ 9) : ∀ i, i ≤ 1000 → TB n i (hrs A r Lr z n m i r)
  | 0, _ => h
  | i + 1, hi => hrA_tb (by omega) (hrs_tb h hw i (by omega)) (fun j hj => by rw [hrs_row _ _ _ _ _ _ _ _ _ (by omega)]; exact hw j hj)
end
def MB (n : Nat) (R : tR) : Prop := ∀ j, j < n → 0 ≤ (R 1 j).toInt ∧ (R 1 j).toInt ≤ 9
theorem gon_tb {n p m : Nat} {R Lr : tR} {z : Nat → Nat} (hw : MB n R) (hm : m ≤ 48) : TB n m (gon R Lr z n p m) :=
  hrs_tb (A := fun _ => zt R) (r := 0) (fun j hj => by
    have e7 : zt R 7 j = 0 := rfl
    have e8 : zt R 8 j = 0 := rfl
    show 0 ≤ (zt R 7 j).toInt ∧ (zt R 7 j).toInt ≤ _ ∧ 0 ≤ (zt R 8 j).toInt ∧ (zt R 8 j).toInt ≤ _
    rw [e7, e8]
    decide) hw m (by omega)
theorem gon_wb {n p m : Nat} {R Lr : tR} {z : Nat → Nat} (hn12 : n ≤ 12) (hn : R 12 0 = nI n) (hw : WB n R) : WB n (gon R Lr z n p m) :=
  hrs_wb (A := fun _ => zt R) (r := 0) hn12 hw hn m
-- sums
theorem sm7T {X : tR} {n c : Nat} (hc : c ≤ 48) (h : TB n c X) : ∀ i, i ≤ n → i ≤ 12 → 0 ≤ (sm7 X i).toInt ∧ (sm7 X i).toInt ≤ 9504 * i
  | 0, _, _ => ⟨z0.1, by show (0 : Int32).toInt ≤ _; decide⟩
  | i + 1, hi, h12 => by
    have h1 := sm7T hc h i (by omega) (by omega)
    have h2 := h i (by omega)
    simp only [sm7]
    rw [addT (by omega) (by omega) (by omega) (by omega)]
    omega
theorem sm8T {X : tR} {n c : Nat} (hc : c ≤ 48) (h : TB n c X) : ∀ i, i ≤ n → i ≤ 12 → 0 ≤ (sm8 X i).toInt ∧ (sm8 X i).toInt ≤ 48 * i
  | 0, _, _ => ⟨z0.1, by show (0 : Int32).toInt ≤ _; decide⟩
  | i + 1, hi, h12 => by
    have h1 := sm8T hc h i (by omega) (by omega)
    have h2 := h i (by omega)
    simp only [sm8]
    rw [addT (by omega) (by omega) (by omega) (by omega)]
    omega
theorem mom_mx7 {X : tR} : ∀ {n : Nat}, (∀ j, j < n → 0 ≤ (X 7 j).toInt) → n ≤ 12 → mom X n = mx7 X n ∧ (0 < n → (bz X n).2 = mx7 X n ∧ ¬ (bz X n).1 = -1) ∧ 0 ≤ (mx7 X n).toInt
  | 0, _, _ => ⟨rfl, fun q => absurd q (by decide), z0.1⟩
  | n + 1, h, h12 => by
    have ih := mom_mx7 (X := X) (n := n) (fun j hj => h j (by omega)) (by omega)
    have hx := h n (by omega)
    have km : (-1 : Int32).toInt = -1 := rfl
    have k0 : (0 : Int32).toInt = 0 := rfl
    have key : (bz X (n + 1)).2 = mx7 X (n + 1) ∧ ¬ (bz X (n + 1)).1 = -1 := by
      simp only [bz, mx7]
      by_cases hn : n = 0
      · subst hn
        have e1 : bz X 0 = (-1, -1) := rfl
        have e2 : mx7 X 0 = 0 := rfl
        rw [e1, e2]
        dsimp only
        rw [if_neg (by rw [Int32.le_iff_toInt_le]; omega)]
        refine ⟨?_, show ¬ nI 0 = -1 from by decide⟩
        dsimp only
        split
        · rename_i q
          rw [Int32.le_iff_toInt_le] at q
          exact Int32.toInt_inj.mp (by omega)
        · rfl
      · obtain ⟨q1, q2⟩ := ih.2.1 (by omega)
        rw [q1]
        split
        · rw [← q1]; exact ⟨rfl, q2⟩
        · refine ⟨rfl, ?_⟩
          dsimp only
          intro q
          rw [← Int32.toInt_inj, nI_toInt (by omega)] at q
          omega
    have hp : 0 ≤ (mx7 X (n + 1)).toInt := by
      simp only [mx7]
      split
      · exact ih.2.2
      · exact hx
    refine ⟨?_, fun _ => key, hp⟩
    unfold mom
    rw [if_neg key.2, key.1]
theorem mx7T {X : tR} {n c : Nat} (hc : c ≤ 48) (h : TB n c X) : ∀ i, i ≤ n → (mx7 X i).toInt ≤ 9504
  | 0, _ => by show (0 : Int32).toInt ≤ _; decide
  | i + 1, hi => by
    have h1 := mx7T hc h i (by omega)
    have h2 := h i (by omega)
    simp only [mx7]
    split <;> omega
-- the best so far, as the model keeps it
def bs (c : Int32 × Int32) (be le : Int32) : Prop := (be = -1 ∧ c = (-1, 2147483647)) ∨ (¬ be = -1 ∧ c = (be, le))
theorem nI_nm1 {i : Nat} (h : i < 2 ^ 31) : ¬ nI i = -1 := by
  intro q
  rw [← Int32.toInt_inj, nI_toInt h] at q
  have : (-1 : Int32).toInt = -1 := rfl
  omega
section
variable {f : Nat → Int32} {i : Nat} {be le v : Int32}
theorem bs_new1 (h : bs (bst (-1, 2147483647) f i) be le) (hb : be = -1) (hv : v = f i) (hm : v < 2147483647) (hi : i < 1000) : bs (bst (-1, 2147483647) f (i + 1)) (nI i) v := by
  rcases h with ⟨_, h⟩ | ⟨h, _⟩
  · refine Or.inr ⟨nI_nm1 (by omega), bst_t hv ?_⟩
    rw [h]; exact hm
  · exact absurd hb h
theorem bs_new2 (h : bs (bst (-1, 2147483647) f i) be le) (hb : ¬ be = -1) (hv : v = f i) (hm : v < le) (hi : i < 1000) : bs (bst (-1, 2147483647) f (i + 1)) (nI i) v := by
  rcases h with ⟨h, _⟩ | ⟨_, h⟩
  · exact absurd h hb
  · refine Or.inr ⟨nI_nm1 (by omega), bst_t hv ?_⟩
    rw [h]; exact hm
theorem bs_old (h : bs (bst (-1, 2147483647) f i) be le) (hb : ¬ be = -1) (hv : v = f i) (hm : ¬ v < le) : bs (bst (-1, 2147483647) f (i + 1)) be le := by
  rcases h with ⟨h, _⟩ | ⟨_, h⟩
  · exact absurd h hb
  · refine Or.inr ⟨hb, (bst_f hv ?_).trans h⟩
    rw [h]; exact hm
theorem not_max (x : Int32) : ¬ (2147483647 : Int32) < x := by
  rw [Int32.lt_iff_toInt_lt]
  have := Int32.toInt_lt x
  have k : (2147483647 : Int32).toInt = 2147483647 := rfl
  omega
theorem bs_skip (h : bs (bst (-1, 2147483647) f i) be le) (hv : (2147483647 : Int32) = f i) : bs (bst (-1, 2147483647) f (i + 1)) be le := by
  rw [bst_f hv (not_max _)]
  exact h
theorem bst_le : ∀ (i k : Nat), k < i → ∀ c, (bst c f i).2 ≤ f k
  | 0, _, h, _ => absurd h (by omega)
  | i + 1, k, h, c => by
    by_cases e : k = i
    · subst e
      simp only [bst]
      split
      · exact Int32.le_refl _
      · exact Int32.not_lt.mp (by assumption)
    · have h1 := bst_le i k (by omega) c
      simp only [bst]
      split
      · rename_i q
        exact Int32.le_trans (Int32.le_of_lt q) h1
      · exact h1
theorem bs_end {k : Nat} (h : bs (bst (-1, 2147483647) f i) be le) (hk : k < i) (hf : f k < 2147483647) : bst (-1, 2147483647) f i = (be, le) := by
  rcases h with ⟨_, h⟩ | ⟨_, h⟩
  · have := bst_le (f := f) i k hk (-1, 2147483647)
    rw [h] at this
    simp only [Int32.le_iff_toInt_le, Int32.lt_iff_toInt_lt] at this hf
    omega
  · exact h
end
