/-! THE MODEL AS A ROAD (wip/whole/gen26.py) -/
def MA (Y : tR) (S : Nat → Int32) : tR := fun a b => if a = 0 then Y 0 b else if a = 1 then Y 1 b else if a = 7 then Y 19 b else if a = 8 then Y 20 b else if a = 9 then Y 3 b else if a = 10 then Y 4 b else if a = 11 then Y 5 b else if a = 12 then (if b = 0 then S 0 else if b = 1 then S 5 else if b = 2 then S 8 else if b = 3 then S 9 else if b = 4 then S 15 else S 34) else Y 2 (5 * b + (a - 2))
def FRh (Y : tR) (S : Nat → Int32) (Y' : tR) (S' : Nat → Int32) : Prop := (∀ i, ¬ (i = 2 ∨ i = 3 ∨ i = 17 ∨ i = 18 ∨ i = 19 ∨ i = 20) → Y' i = Y i) ∧ (∀ j, ¬ (j = 8 ∨ j = 34) → S' j = S j)
theorem FRh.refl {Y : tR} {S : Nat → Int32} : FRh Y S Y S := ⟨fun _ _ => rfl, fun _ _ => rfl⟩
theorem FRh.trans {Y Y1 Y2 : tR} {S S1 S2 : Nat → Int32} (h : FRh Y S Y1 S1) (k : FRh Y1 S1 Y2 S2) : FRh Y S Y2 S2 := ⟨fun i hi => (k.1 i hi).trans (h.1 i hi), fun j hj => (k.2 j hj).trans (h.2 j hj)⟩
theorem u2_row {Y : tR} {a k i : Nat} {v : Int32} (h : ¬ i = a) : u2 Y a k v i = Y i := va_oth _ _ h
theorem FRh.u {Y Y1 : tR} {S S1 : Nat → Int32} (h : FRh Y S Y1 S1) {a k : Nat} {v : Int32} (ha : a = 2 ∨ a = 3 ∨ a = 17 ∨ a = 18 ∨ a = 19 ∨ a = 20) : FRh Y S (u2 Y1 a k v) S1 := ⟨fun i hi => (u2_row (a := a) (i := i) (fun e => hi (by omega))).trans (h.1 i hi), h.2⟩
theorem FRh.s {Y Y1 : tR} {S S1 : Nat → Int32} (h : FRh Y S Y1 S1) {j : Nat} {v : Int32} (hj : j = 8 ∨ j = 34) : FRh Y S Y1 (va_up S1 j v) := ⟨h.1, fun i hi => (va_oth (i := j) (j := i) _ _ (fun e => hi (by omega))).trans (h.2 i hi)⟩
theorem FRh.lm {Y Y1 : tR} {S S1 : Nat → Int32} (h : FRh Y S Y1 S1) {t : Nat} {Lr : tR} {z : Nat → Nat} (hM : LM Y t Lr z) : LM Y1 t Lr z := by
  unfold LM at hM ⊢
  rw [h.1 8 (by decide), h.1 7 (by decide)]
  exact hM
theorem us_13 {n a b : Nat} (u : us n a b) : a = 0 ∨ a = 1 ∨ a = 2 ∨ a = 3 ∨ a = 4 ∨ a = 5 ∨ a = 6 ∨ a = 7 ∨ a = 8 ∨ a = 9 ∨ a = 10 ∨ a = 11 ∨ (a = 12 ∧ (b = 0 ∨ b = 1 ∨ b = 2 ∨ b = 3 ∨ b = 4 ∨ b = 5)) := by unfold us at u; omega
section
variable {n : Nat} {Y : tR} {S : Nat → Int32} {A : Nat → tR} {r j : Nat} {v v' : Int32}
theorem meq_0 (h : EQ n (MA Y S) (A r)) (hv : v = v') : EQ n (MA (u2 Y 0 j v) S) (u3 A r 0 j v' r) := by
  intro a b u
  rcases us_13 u with rfl | rfl | rfl | rfl | rfl | rfl | rfl | rfl | rfl | rfl | rfl | rfl | ⟨rfl, rfl | rfl | rfl | rfl | rfl | rfl⟩
  · rw [u3_ap]
    show u2 Y 0 j v 0 b = _
    rw [u2_ap]
    by_cases e : b = j
    · rw [if_pos ⟨rfl, e⟩, if_pos ⟨rfl, rfl, e⟩, hv]
    · rw [if_neg (fun q => e q.2), if_neg (fun q => e q.2.2)]
      exact h _ _ u
  · rw [u3_ap, if_neg (by omega)]; exact h _ _ u
  · rw [u3_ap, if_neg (by omega)]; exact h _ _ u
  · rw [u3_ap, if_neg (by omega)]; exact h _ _ u
  · rw [u3_ap, if_neg (by omega)]; exact h _ _ u
  · rw [u3_ap, if_neg (by omega)]; exact h _ _ u
  · rw [u3_ap, if_neg (by omega)]; exact h _ _ u
  · rw [u3_ap, if_neg (by omega)]; exact h _ _ u
  · rw [u3_ap, if_neg (by omega)]; exact h _ _ u
  · rw [u3_ap, if_neg (by omega)]; exact h _ _ u
  · rw [u3_ap, if_neg (by omega)]; exact h _ _ u
  · rw [u3_ap, if_neg (by omega)]; exact h _ _ u
  · rw [u3_ap, if_neg (by omega)]; exact h _ _ u
  · rw [u3_ap, if_neg (by omega)]; exact h _ _ u
  · rw [u3_ap, if_neg (by omega)]; exact h _ _ u
  · rw [u3_ap, if_neg (by omega)]; exact h _ _ u
  · rw [u3_ap, if_neg (by omega)]; exact h _ _ u
  · rw [u3_ap, if_neg (by omega)]; exact h _ _ u
theorem meq_1 (h : EQ n (MA Y S) (A r)) (hv : v = v') : EQ n (MA (u2 Y 1 j v) S) (u3 A r 1 j v' r) := by
  intro a b u
  rcases us_13 u with rfl | rfl | rfl | rfl | rfl | rfl | rfl | rfl | rfl | rfl | rfl | rfl | ⟨rfl, rfl | rfl | rfl | rfl | rfl | rfl⟩
  · rw [u3_ap, if_neg (by omega)]; exact h _ _ u
  · rw [u3_ap]
    show u2 Y 1 j v 1 b = _
    rw [u2_ap]
    by_cases e : b = j
    · rw [if_pos ⟨rfl, e⟩, if_pos ⟨rfl, rfl, e⟩, hv]
    · rw [if_neg (fun q => e q.2), if_neg (fun q => e q.2.2)]
      exact h _ _ u
  · rw [u3_ap, if_neg (by omega)]; exact h _ _ u
  · rw [u3_ap, if_neg (by omega)]; exact h _ _ u
  · rw [u3_ap, if_neg (by omega)]; exact h _ _ u
  · rw [u3_ap, if_neg (by omega)]; exact h _ _ u
  · rw [u3_ap, if_neg (by omega)]; exact h _ _ u
  · rw [u3_ap, if_neg (by omega)]; exact h _ _ u
  · rw [u3_ap, if_neg (by omega)]; exact h _ _ u
  · rw [u3_ap, if_neg (by omega)]; exact h _ _ u
  · rw [u3_ap, if_neg (by omega)]; exact h _ _ u
  · rw [u3_ap, if_neg (by omega)]; exact h _ _ u
  · rw [u3_ap, if_neg (by omega)]; exact h _ _ u
  · rw [u3_ap, if_neg (by omega)]; exact h _ _ u
  · rw [u3_ap, if_neg (by omega)]; exact h _ _ u
  · rw [u3_ap, if_neg (by omega)]; exact h _ _ u
  · rw [u3_ap, if_neg (by omega)]; exact h _ _ u
  · rw [u3_ap, if_neg (by omega)]; exact h _ _ u
theorem meq_3 (h : EQ n (MA Y S) (A r)) (hv : v = v') : EQ n (MA (u2 Y 3 j v) S) (u3 A r 9 j v' r) := by
  intro a b u
  rcases us_13 u with rfl | rfl | rfl | rfl | rfl | rfl | rfl | rfl | rfl | rfl | rfl | rfl | ⟨rfl, rfl | rfl | rfl | rfl | rfl | rfl⟩
  · rw [u3_ap, if_neg (by omega)]; exact h _ _ u
  · rw [u3_ap, if_neg (by omega)]; exact h _ _ u
  · rw [u3_ap, if_neg (by omega)]; exact h _ _ u
  · rw [u3_ap, if_neg (by omega)]; exact h _ _ u
  · rw [u3_ap, if_neg (by omega)]; exact h _ _ u
  · rw [u3_ap, if_neg (by omega)]; exact h _ _ u
  · rw [u3_ap, if_neg (by omega)]; exact h _ _ u
  · rw [u3_ap, if_neg (by omega)]; exact h _ _ u
  · rw [u3_ap, if_neg (by omega)]; exact h _ _ u
  · rw [u3_ap]
    show u2 Y 3 j v 3 b = _
    rw [u2_ap]
    by_cases e : b = j
    · rw [if_pos ⟨rfl, e⟩, if_pos ⟨rfl, rfl, e⟩, hv]
    · rw [if_neg (fun q => e q.2), if_neg (fun q => e q.2.2)]
      exact h _ _ u
  · rw [u3_ap, if_neg (by omega)]; exact h _ _ u
  · rw [u3_ap, if_neg (by omega)]; exact h _ _ u
  · rw [u3_ap, if_neg (by omega)]; exact h _ _ u
  · rw [u3_ap, if_neg (by omega)]; exact h _ _ u
  · rw [u3_ap, if_neg (by omega)]; exact h _ _ u
  · rw [u3_ap, if_neg (by omega)]; exact h _ _ u
  · rw [u3_ap, if_neg (by omega)]; exact h _ _ u
  · rw [u3_ap, if_neg (by omega)]; exact h _ _ u
theorem meq_4 (h : EQ n (MA Y S) (A r)) (hv : v = v') : EQ n (MA (u2 Y 4 j v) S) (u3 A r 10 j v' r) := by
  intro a b u
  rcases us_13 u with rfl | rfl | rfl | rfl | rfl | rfl | rfl | rfl | rfl | rfl | rfl | rfl | ⟨rfl, rfl | rfl | rfl | rfl | rfl | rfl⟩
  · rw [u3_ap, if_neg (by omega)]; exact h _ _ u
  · rw [u3_ap, if_neg (by omega)]; exact h _ _ u
  · rw [u3_ap, if_neg (by omega)]; exact h _ _ u
  · rw [u3_ap, if_neg (by omega)]; exact h _ _ u
  · rw [u3_ap, if_neg (by omega)]; exact h _ _ u
  · rw [u3_ap, if_neg (by omega)]; exact h _ _ u
  · rw [u3_ap, if_neg (by omega)]; exact h _ _ u
  · rw [u3_ap, if_neg (by omega)]; exact h _ _ u
  · rw [u3_ap, if_neg (by omega)]; exact h _ _ u
  · rw [u3_ap, if_neg (by omega)]; exact h _ _ u
  · rw [u3_ap]
    show u2 Y 4 j v 4 b = _
    rw [u2_ap]
    by_cases e : b = j
    · rw [if_pos ⟨rfl, e⟩, if_pos ⟨rfl, rfl, e⟩, hv]
    · rw [if_neg (fun q => e q.2), if_neg (fun q => e q.2.2)]
      exact h _ _ u
  · rw [u3_ap, if_neg (by omega)]; exact h _ _ u
  · rw [u3_ap, if_neg (by omega)]; exact h _ _ u
  · rw [u3_ap, if_neg (by omega)]; exact h _ _ u
  · rw [u3_ap, if_neg (by omega)]; exact h _ _ u
  · rw [u3_ap, if_neg (by omega)]; exact h _ _ u
  · rw [u3_ap, if_neg (by omega)]; exact h _ _ u
  · rw [u3_ap, if_neg (by omega)]; exact h _ _ u
theorem meq_5 (h : EQ n (MA Y S) (A r)) (hv : v = v') : EQ n (MA (u2 Y 5 j v) S) (u3 A r 11 j v' r) := by
  intro a b u
  rcases us_13 u with rfl | rfl | rfl | rfl | rfl | rfl | rfl | rfl | rfl | rfl | rfl | rfl | ⟨rfl, rfl | rfl | rfl | rfl | rfl | rfl⟩
  · rw [u3_ap, if_neg (by omega)]; exact h _ _ u
  · rw [u3_ap, if_neg (by omega)]; exact h _ _ u
  · rw [u3_ap, if_neg (by omega)]; exact h _ _ u
  · rw [u3_ap, if_neg (by omega)]; exact h _ _ u
  · rw [u3_ap, if_neg (by omega)]; exact h _ _ u
  · rw [u3_ap, if_neg (by omega)]; exact h _ _ u
  · rw [u3_ap, if_neg (by omega)]; exact h _ _ u
  · rw [u3_ap, if_neg (by omega)]; exact h _ _ u
  · rw [u3_ap, if_neg (by omega)]; exact h _ _ u
  · rw [u3_ap, if_neg (by omega)]; exact h _ _ u
  · rw [u3_ap, if_neg (by omega)]; exact h _ _ u
  · rw [u3_ap]
    show u2 Y 5 j v 5 b = _
    rw [u2_ap]
    by_cases e : b = j
    · rw [if_pos ⟨rfl, e⟩, if_pos ⟨rfl, rfl, e⟩, hv]
    · rw [if_neg (fun q => e q.2), if_neg (fun q => e q.2.2)]
      exact h _ _ u
  · rw [u3_ap, if_neg (by omega)]; exact h _ _ u
  · rw [u3_ap, if_neg (by omega)]; exact h _ _ u
  · rw [u3_ap, if_neg (by omega)]; exact h _ _ u
  · rw [u3_ap, if_neg (by omega)]; exact h _ _ u
  · rw [u3_ap, if_neg (by omega)]; exact h _ _ u
  · rw [u3_ap, if_neg (by omega)]; exact h _ _ u
theorem meq_19 (h : EQ n (MA Y S) (A r)) (hv : v = v') : EQ n (MA (u2 Y 19 j v) S) (u3 A r 7 j v' r) := by
  intro a b u
  rcases us_13 u with rfl | rfl | rfl | rfl | rfl | rfl | rfl | rfl | rfl | rfl | rfl | rfl | ⟨rfl, rfl | rfl | rfl | rfl | rfl | rfl⟩
  · rw [u3_ap, if_neg (by omega)]; exact h _ _ u
  · rw [u3_ap, if_neg (by omega)]; exact h _ _ u
  · rw [u3_ap, if_neg (by omega)]; exact h _ _ u
  · rw [u3_ap, if_neg (by omega)]; exact h _ _ u
  · rw [u3_ap, if_neg (by omega)]; exact h _ _ u
  · rw [u3_ap, if_neg (by omega)]; exact h _ _ u
  · rw [u3_ap, if_neg (by omega)]; exact h _ _ u
  · rw [u3_ap]
    show u2 Y 19 j v 19 b = _
    rw [u2_ap]
    by_cases e : b = j
    · rw [if_pos ⟨rfl, e⟩, if_pos ⟨rfl, rfl, e⟩, hv]
    · rw [if_neg (fun q => e q.2), if_neg (fun q => e q.2.2)]
      exact h _ _ u
  · rw [u3_ap, if_neg (by omega)]; exact h _ _ u
  · rw [u3_ap, if_neg (by omega)]; exact h _ _ u
  · rw [u3_ap, if_neg (by omega)]; exact h _ _ u
  · rw [u3_ap, if_neg (by omega)]; exact h _ _ u
  · rw [u3_ap, if_neg (by omega)]; exact h _ _ u
  · rw [u3_ap, if_neg (by omega)]; exact h _ _ u
  · rw [u3_ap, if_neg (by omega)]; exact h _ _ u
  · rw [u3_ap, if_neg (by omega)]; exact h _ _ u
  · rw [u3_ap, if_neg (by omega)]; exact h _ _ u
  · rw [u3_ap, if_neg (by omega)]; exact h _ _ u
theorem meq_20 (h : EQ n (MA Y S) (A r)) (hv : v = v') : EQ n (MA (u2 Y 20 j v) S) (u3 A r 8 j v' r) := by
  intro a b u
  rcases us_13 u with rfl | rfl | rfl | rfl | rfl | rfl | rfl | rfl | rfl | rfl | rfl | rfl | ⟨rfl, rfl | rfl | rfl | rfl | rfl | rfl⟩
  · rw [u3_ap, if_neg (by omega)]; exact h _ _ u
  · rw [u3_ap, if_neg (by omega)]; exact h _ _ u
  · rw [u3_ap, if_neg (by omega)]; exact h _ _ u
  · rw [u3_ap, if_neg (by omega)]; exact h _ _ u
  · rw [u3_ap, if_neg (by omega)]; exact h _ _ u
  · rw [u3_ap, if_neg (by omega)]; exact h _ _ u
  · rw [u3_ap, if_neg (by omega)]; exact h _ _ u
  · rw [u3_ap, if_neg (by omega)]; exact h _ _ u
  · rw [u3_ap]
    show u2 Y 20 j v 20 b = _
    rw [u2_ap]
    by_cases e : b = j
    · rw [if_pos ⟨rfl, e⟩, if_pos ⟨rfl, rfl, e⟩, hv]
    · rw [if_neg (fun q => e q.2), if_neg (fun q => e q.2.2)]
      exact h _ _ u
  · rw [u3_ap, if_neg (by omega)]; exact h _ _ u
  · rw [u3_ap, if_neg (by omega)]; exact h _ _ u
  · rw [u3_ap, if_neg (by omega)]; exact h _ _ u
  · rw [u3_ap, if_neg (by omega)]; exact h _ _ u
  · rw [u3_ap, if_neg (by omega)]; exact h _ _ u
  · rw [u3_ap, if_neg (by omega)]; exact h _ _ u
  · rw [u3_ap, if_neg (by omega)]; exact h _ _ u
  · rw [u3_ap, if_neg (by omega)]; exact h _ _ u
  · rw [u3_ap, if_neg (by omega)]; exact h _ _ u
theorem meq_r0 (h : EQ n (MA Y S) (A r)) (hv : v = v') : EQ n (MA (u2 Y 2 (5 * j) v) S) (u3 A r 2 j v' r) := by
  intro a b u
  rcases us_13 u with rfl | rfl | rfl | rfl | rfl | rfl | rfl | rfl | rfl | rfl | rfl | rfl | ⟨rfl, rfl | rfl | rfl | rfl | rfl | rfl⟩
  · rw [u3_ap, if_neg (by omega)]; exact h _ _ u
  · rw [u3_ap, if_neg (by omega)]; exact h _ _ u
  · rw [u3_ap]
    show u2 Y 2 (5 * j) v 2 (5 * b + (2 - 2)) = _
    rw [u2_ap]
    by_cases e : b = j
    · rw [if_pos ⟨rfl, by omega⟩, if_pos ⟨rfl, rfl, e⟩, hv]
    · rw [if_neg (fun q => e (by omega)), if_neg (fun q => e q.2.2)]
      exact h _ _ u
  · rw [u3_ap, if_neg (by omega)]
    show u2 Y 2 (5 * j) v 2 (5 * b + (3 - 2)) = _
    rw [u2_ap, if_neg (by omega)]
    exact h _ _ u
  · rw [u3_ap, if_neg (by omega)]
    show u2 Y 2 (5 * j) v 2 (5 * b + (4 - 2)) = _
    rw [u2_ap, if_neg (by omega)]
    exact h _ _ u
  · rw [u3_ap, if_neg (by omega)]
    show u2 Y 2 (5 * j) v 2 (5 * b + (5 - 2)) = _
    rw [u2_ap, if_neg (by omega)]
    exact h _ _ u
  · rw [u3_ap, if_neg (by omega)]
    show u2 Y 2 (5 * j) v 2 (5 * b + (6 - 2)) = _
    rw [u2_ap, if_neg (by omega)]
    exact h _ _ u
  · rw [u3_ap, if_neg (by omega)]; exact h _ _ u
  · rw [u3_ap, if_neg (by omega)]; exact h _ _ u
  · rw [u3_ap, if_neg (by omega)]; exact h _ _ u
  · rw [u3_ap, if_neg (by omega)]; exact h _ _ u
  · rw [u3_ap, if_neg (by omega)]; exact h _ _ u
  · rw [u3_ap, if_neg (by omega)]; exact h _ _ u
  · rw [u3_ap, if_neg (by omega)]; exact h _ _ u
  · rw [u3_ap, if_neg (by omega)]; exact h _ _ u
  · rw [u3_ap, if_neg (by omega)]; exact h _ _ u
  · rw [u3_ap, if_neg (by omega)]; exact h _ _ u
  · rw [u3_ap, if_neg (by omega)]; exact h _ _ u
theorem meq_r1 (h : EQ n (MA Y S) (A r)) (hv : v = v') : EQ n (MA (u2 Y 2 (5 * j + 1) v) S) (u3 A r 3 j v' r) := by
  intro a b u
  rcases us_13 u with rfl | rfl | rfl | rfl | rfl | rfl | rfl | rfl | rfl | rfl | rfl | rfl | ⟨rfl, rfl | rfl | rfl | rfl | rfl | rfl⟩
  · rw [u3_ap, if_neg (by omega)]; exact h _ _ u
  · rw [u3_ap, if_neg (by omega)]; exact h _ _ u
  · rw [u3_ap, if_neg (by omega)]
    show u2 Y 2 (5 * j + 1) v 2 (5 * b + (2 - 2)) = _
    rw [u2_ap, if_neg (by omega)]
    exact h _ _ u
  · rw [u3_ap]
    show u2 Y 2 (5 * j + 1) v 2 (5 * b + (3 - 2)) = _
    rw [u2_ap]
    by_cases e : b = j
    · rw [if_pos ⟨rfl, by omega⟩, if_pos ⟨rfl, rfl, e⟩, hv]
    · rw [if_neg (fun q => e (by omega)), if_neg (fun q => e q.2.2)]
      exact h _ _ u
  · rw [u3_ap, if_neg (by omega)]
    show u2 Y 2 (5 * j + 1) v 2 (5 * b + (4 - 2)) = _
    rw [u2_ap, if_neg (by omega)]
    exact h _ _ u
  · rw [u3_ap, if_neg (by omega)]
    show u2 Y 2 (5 * j + 1) v 2 (5 * b + (5 - 2)) = _
    rw [u2_ap, if_neg (by omega)]
    exact h _ _ u
  · rw [u3_ap, if_neg (by omega)]
    show u2 Y 2 (5 * j + 1) v 2 (5 * b + (6 - 2)) = _
    rw [u2_ap, if_neg (by omega)]
    exact h _ _ u
  · rw [u3_ap, if_neg (by omega)]; exact h _ _ u
  · rw [u3_ap, if_neg (by omega)]; exact h _ _ u
  · rw [u3_ap, if_neg (by omega)]; exact h _ _ u
  · rw [u3_ap, if_neg (by omega)]; exact h _ _ u
  · rw [u3_ap, if_neg (by omega)]; exact h _ _ u
  · rw [u3_ap, if_neg (by omega)]; exact h _ _ u
  · rw [u3_ap, if_neg (by omega)]; exact h _ _ u
  · rw [u3_ap, if_neg (by omega)]; exact h _ _ u
  · rw [u3_ap, if_neg (by omega)]; exact h _ _ u
  · rw [u3_ap, if_neg (by omega)]; exact h _ _ u
  · rw [u3_ap, if_neg (by omega)]; exact h _ _ u
theorem meq_r2 (h : EQ n (MA Y S) (A r)) (hv : v = v') : EQ n (MA (u2 Y 2 (5 * j + 2) v) S) (u3 A r 4 j v' r) := by
  intro a b u
  rcases us_13 u with rfl | rfl | rfl | rfl | rfl | rfl | rfl | rfl | rfl | rfl | rfl | rfl | ⟨rfl, rfl | rfl | rfl | rfl | rfl | rfl⟩
  · rw [u3_ap, if_neg (by omega)]; exact h _ _ u
  · rw [u3_ap, if_neg (by omega)]; exact h _ _ u
  · rw [u3_ap, if_neg (by omega)]
    show u2 Y 2 (5 * j + 2) v 2 (5 * b + (2 - 2)) = _
    rw [u2_ap, if_neg (by omega)]
    exact h _ _ u
  · rw [u3_ap, if_neg (by omega)]
    show u2 Y 2 (5 * j + 2) v 2 (5 * b + (3 - 2)) = _
    rw [u2_ap, if_neg (by omega)]
    exact h _ _ u
  · rw [u3_ap]
    show u2 Y 2 (5 * j + 2) v 2 (5 * b + (4 - 2)) = _
    rw [u2_ap]
    by_cases e : b = j
    · rw [if_pos ⟨rfl, by omega⟩, if_pos ⟨rfl, rfl, e⟩, hv]
    · rw [if_neg (fun q => e (by omega)), if_neg (fun q => e q.2.2)]
      exact h _ _ u
  · rw [u3_ap, if_neg (by omega)]
    show u2 Y 2 (5 * j + 2) v 2 (5 * b + (5 - 2)) = _
    rw [u2_ap, if_neg (by omega)]
    exact h _ _ u
  · rw [u3_ap, if_neg (by omega)]
    show u2 Y 2 (5 * j + 2) v 2 (5 * b + (6 - 2)) = _
    rw [u2_ap, if_neg (by omega)]
    exact h _ _ u
  · rw [u3_ap, if_neg (by omega)]; exact h _ _ u
  · rw [u3_ap, if_neg (by omega)]; exact h _ _ u
  · rw [u3_ap, if_neg (by omega)]; exact h _ _ u
  · rw [u3_ap, if_neg (by omega)]; exact h _ _ u
  · rw [u3_ap, if_neg (by omega)]; exact h _ _ u
  · rw [u3_ap, if_neg (by omega)]; exact h _ _ u
  · rw [u3_ap, if_neg (by omega)]; exact h _ _ u
  · rw [u3_ap, if_neg (by omega)]; exact h _ _ u
  · rw [u3_ap, if_neg (by omega)]; exact h _ _ u
  · rw [u3_ap, if_neg (by omega)]; exact h _ _ u
  · rw [u3_ap, if_neg (by omega)]; exact h _ _ u
theorem meq_r3 (h : EQ n (MA Y S) (A r)) (hv : v = v') : EQ n (MA (u2 Y 2 (5 * j + 3) v) S) (u3 A r 5 j v' r) := by
  intro a b u
  rcases us_13 u with rfl | rfl | rfl | rfl | rfl | rfl | rfl | rfl | rfl | rfl | rfl | rfl | ⟨rfl, rfl | rfl | rfl | rfl | rfl | rfl⟩
  · rw [u3_ap, if_neg (by omega)]; exact h _ _ u
  · rw [u3_ap, if_neg (by omega)]; exact h _ _ u
  · rw [u3_ap, if_neg (by omega)]
    show u2 Y 2 (5 * j + 3) v 2 (5 * b + (2 - 2)) = _
    rw [u2_ap, if_neg (by omega)]
    exact h _ _ u
  · rw [u3_ap, if_neg (by omega)]
    show u2 Y 2 (5 * j + 3) v 2 (5 * b + (3 - 2)) = _
    rw [u2_ap, if_neg (by omega)]
    exact h _ _ u
  · rw [u3_ap, if_neg (by omega)]
    show u2 Y 2 (5 * j + 3) v 2 (5 * b + (4 - 2)) = _
    rw [u2_ap, if_neg (by omega)]
    exact h _ _ u
  · rw [u3_ap]
    show u2 Y 2 (5 * j + 3) v 2 (5 * b + (5 - 2)) = _
    rw [u2_ap]
    by_cases e : b = j
    · rw [if_pos ⟨rfl, by omega⟩, if_pos ⟨rfl, rfl, e⟩, hv]
    · rw [if_neg (fun q => e (by omega)), if_neg (fun q => e q.2.2)]
      exact h _ _ u
  · rw [u3_ap, if_neg (by omega)]
    show u2 Y 2 (5 * j + 3) v 2 (5 * b + (6 - 2)) = _
    rw [u2_ap, if_neg (by omega)]
    exact h _ _ u
  · rw [u3_ap, if_neg (by omega)]; exact h _ _ u
  · rw [u3_ap, if_neg (by omega)]; exact h _ _ u
  · rw [u3_ap, if_neg (by omega)]; exact h _ _ u
  · rw [u3_ap, if_neg (by omega)]; exact h _ _ u
  · rw [u3_ap, if_neg (by omega)]; exact h _ _ u
  · rw [u3_ap, if_neg (by omega)]; exact h _ _ u
  · rw [u3_ap, if_neg (by omega)]; exact h _ _ u
  · rw [u3_ap, if_neg (by omega)]; exact h _ _ u
  · rw [u3_ap, if_neg (by omega)]; exact h _ _ u
  · rw [u3_ap, if_neg (by omega)]; exact h _ _ u
  · rw [u3_ap, if_neg (by omega)]; exact h _ _ u
theorem meq_r4 (h : EQ n (MA Y S) (A r)) (hv : v = v') : EQ n (MA (u2 Y 2 (5 * j + 4) v) S) (u3 A r 6 j v' r) := by
  intro a b u
  rcases us_13 u with rfl | rfl | rfl | rfl | rfl | rfl | rfl | rfl | rfl | rfl | rfl | rfl | ⟨rfl, rfl | rfl | rfl | rfl | rfl | rfl⟩
  · rw [u3_ap, if_neg (by omega)]; exact h _ _ u
  · rw [u3_ap, if_neg (by omega)]; exact h _ _ u
  · rw [u3_ap, if_neg (by omega)]
    show u2 Y 2 (5 * j + 4) v 2 (5 * b + (2 - 2)) = _
    rw [u2_ap, if_neg (by omega)]
    exact h _ _ u
  · rw [u3_ap, if_neg (by omega)]
    show u2 Y 2 (5 * j + 4) v 2 (5 * b + (3 - 2)) = _
    rw [u2_ap, if_neg (by omega)]
    exact h _ _ u
  · rw [u3_ap, if_neg (by omega)]
    show u2 Y 2 (5 * j + 4) v 2 (5 * b + (4 - 2)) = _
    rw [u2_ap, if_neg (by omega)]
    exact h _ _ u
  · rw [u3_ap, if_neg (by omega)]
    show u2 Y 2 (5 * j + 4) v 2 (5 * b + (5 - 2)) = _
    rw [u2_ap, if_neg (by omega)]
    exact h _ _ u
  · rw [u3_ap]
    show u2 Y 2 (5 * j + 4) v 2 (5 * b + (6 - 2)) = _
    rw [u2_ap]
    by_cases e : b = j
    · rw [if_pos ⟨rfl, by omega⟩, if_pos ⟨rfl, rfl, e⟩, hv]
    · rw [if_neg (fun q => e (by omega)), if_neg (fun q => e q.2.2)]
      exact h _ _ u
  · rw [u3_ap, if_neg (by omega)]; exact h _ _ u
  · rw [u3_ap, if_neg (by omega)]; exact h _ _ u
  · rw [u3_ap, if_neg (by omega)]; exact h _ _ u
  · rw [u3_ap, if_neg (by omega)]; exact h _ _ u
  · rw [u3_ap, if_neg (by omega)]; exact h _ _ u
  · rw [u3_ap, if_neg (by omega)]; exact h _ _ u
  · rw [u3_ap, if_neg (by omega)]; exact h _ _ u
  · rw [u3_ap, if_neg (by omega)]; exact h _ _ u
  · rw [u3_ap, if_neg (by omega)]; exact h _ _ u
  · rw [u3_ap, if_neg (by omega)]; exact h _ _ u
  · rw [u3_ap, if_neg (by omega)]; exact h _ _ u
theorem meq_s0 (h : EQ n (MA Y S) (A r)) (hv : v = v') : EQ n (MA Y (va_up S 0 v)) (u3 A r 12 0 v' r) := by
  intro a b u
  rcases us_13 u with rfl | rfl | rfl | rfl | rfl | rfl | rfl | rfl | rfl | rfl | rfl | rfl | ⟨rfl, rfl | rfl | rfl | rfl | rfl | rfl⟩
  · rw [u3_ap, if_neg (by omega)]; exact h _ _ u
  · rw [u3_ap, if_neg (by omega)]; exact h _ _ u
  · rw [u3_ap, if_neg (by omega)]; exact h _ _ u
  · rw [u3_ap, if_neg (by omega)]; exact h _ _ u
  · rw [u3_ap, if_neg (by omega)]; exact h _ _ u
  · rw [u3_ap, if_neg (by omega)]; exact h _ _ u
  · rw [u3_ap, if_neg (by omega)]; exact h _ _ u
  · rw [u3_ap, if_neg (by omega)]; exact h _ _ u
  · rw [u3_ap, if_neg (by omega)]; exact h _ _ u
  · rw [u3_ap, if_neg (by omega)]; exact h _ _ u
  · rw [u3_ap, if_neg (by omega)]; exact h _ _ u
  · rw [u3_ap, if_neg (by omega)]; exact h _ _ u
  · rw [u3_ap, if_pos ⟨rfl, rfl, rfl⟩, ← hv]; rfl
  · rw [u3_ap, if_neg (by omega)]; exact h _ _ u
  · rw [u3_ap, if_neg (by omega)]; exact h _ _ u
  · rw [u3_ap, if_neg (by omega)]; exact h _ _ u
  · rw [u3_ap, if_neg (by omega)]; exact h _ _ u
  · rw [u3_ap, if_neg (by omega)]; exact h _ _ u
theorem meq_s5 (h : EQ n (MA Y S) (A r)) (hv : v = v') : EQ n (MA Y (va_up S 5 v)) (u3 A r 12 1 v' r) := by
  intro a b u
  rcases us_13 u with rfl | rfl | rfl | rfl | rfl | rfl | rfl | rfl | rfl | rfl | rfl | rfl | ⟨rfl, rfl | rfl | rfl | rfl | rfl | rfl⟩
  · rw [u3_ap, if_neg (by omega)]; exact h _ _ u
  · rw [u3_ap, if_neg (by omega)]; exact h _ _ u
  · rw [u3_ap, if_neg (by omega)]; exact h _ _ u
  · rw [u3_ap, if_neg (by omega)]; exact h _ _ u
  · rw [u3_ap, if_neg (by omega)]; exact h _ _ u
  · rw [u3_ap, if_neg (by omega)]; exact h _ _ u
  · rw [u3_ap, if_neg (by omega)]; exact h _ _ u
  · rw [u3_ap, if_neg (by omega)]; exact h _ _ u
  · rw [u3_ap, if_neg (by omega)]; exact h _ _ u
  · rw [u3_ap, if_neg (by omega)]; exact h _ _ u
  · rw [u3_ap, if_neg (by omega)]; exact h _ _ u
  · rw [u3_ap, if_neg (by omega)]; exact h _ _ u
  · rw [u3_ap, if_neg (by omega)]; exact h _ _ u
  · rw [u3_ap, if_pos ⟨rfl, rfl, rfl⟩, ← hv]; rfl
  · rw [u3_ap, if_neg (by omega)]; exact h _ _ u
  · rw [u3_ap, if_neg (by omega)]; exact h _ _ u
  · rw [u3_ap, if_neg (by omega)]; exact h _ _ u
  · rw [u3_ap, if_neg (by omega)]; exact h _ _ u
theorem meq_s8 (h : EQ n (MA Y S) (A r)) (hv : v = v') : EQ n (MA Y (va_up S 8 v)) (u3 A r 12 2 v' r) := by
  intro a b u
  rcases us_13 u with rfl | rfl | rfl | rfl | rfl | rfl | rfl | rfl | rfl | rfl | rfl | rfl | ⟨rfl, rfl | rfl | rfl | rfl | rfl | rfl⟩
  · rw [u3_ap, if_neg (by omega)]; exact h _ _ u
  · rw [u3_ap, if_neg (by omega)]; exact h _ _ u
  · rw [u3_ap, if_neg (by omega)]; exact h _ _ u
  · rw [u3_ap, if_neg (by omega)]; exact h _ _ u
  · rw [u3_ap, if_neg (by omega)]; exact h _ _ u
  · rw [u3_ap, if_neg (by omega)]; exact h _ _ u
  · rw [u3_ap, if_neg (by omega)]; exact h _ _ u
  · rw [u3_ap, if_neg (by omega)]; exact h _ _ u
  · rw [u3_ap, if_neg (by omega)]; exact h _ _ u
  · rw [u3_ap, if_neg (by omega)]; exact h _ _ u
  · rw [u3_ap, if_neg (by omega)]; exact h _ _ u
  · rw [u3_ap, if_neg (by omega)]; exact h _ _ u
  · rw [u3_ap, if_neg (by omega)]; exact h _ _ u
  · rw [u3_ap, if_neg (by omega)]; exact h _ _ u
  · rw [u3_ap, if_pos ⟨rfl, rfl, rfl⟩, ← hv]; rfl
  · rw [u3_ap, if_neg (by omega)]; exact h _ _ u
  · rw [u3_ap, if_neg (by omega)]; exact h _ _ u
  · rw [u3_ap, if_neg (by omega)]; exact h _ _ u
theorem meq_s9 (h : EQ n (MA Y S) (A r)) (hv : v = v') : EQ n (MA Y (va_up S 9 v)) (u3 A r 12 3 v' r) := by
  intro a b u
  rcases us_13 u with rfl | rfl | rfl | rfl | rfl | rfl | rfl | rfl | rfl | rfl | rfl | rfl | ⟨rfl, rfl | rfl | rfl | rfl | rfl | rfl⟩
  · rw [u3_ap, if_neg (by omega)]; exact h _ _ u
  · rw [u3_ap, if_neg (by omega)]; exact h _ _ u
  · rw [u3_ap, if_neg (by omega)]; exact h _ _ u
  · rw [u3_ap, if_neg (by omega)]; exact h _ _ u
  · rw [u3_ap, if_neg (by omega)]; exact h _ _ u
  · rw [u3_ap, if_neg (by omega)]; exact h _ _ u
  · rw [u3_ap, if_neg (by omega)]; exact h _ _ u
  · rw [u3_ap, if_neg (by omega)]; exact h _ _ u
  · rw [u3_ap, if_neg (by omega)]; exact h _ _ u
  · rw [u3_ap, if_neg (by omega)]; exact h _ _ u
  · rw [u3_ap, if_neg (by omega)]; exact h _ _ u
  · rw [u3_ap, if_neg (by omega)]; exact h _ _ u
  · rw [u3_ap, if_neg (by omega)]; exact h _ _ u
  · rw [u3_ap, if_neg (by omega)]; exact h _ _ u
  · rw [u3_ap, if_neg (by omega)]; exact h _ _ u
  · rw [u3_ap, if_pos ⟨rfl, rfl, rfl⟩, ← hv]; rfl
  · rw [u3_ap, if_neg (by omega)]; exact h _ _ u
  · rw [u3_ap, if_neg (by omega)]; exact h _ _ u
theorem meq_s15 (h : EQ n (MA Y S) (A r)) (hv : v = v') : EQ n (MA Y (va_up S 15 v)) (u3 A r 12 4 v' r) := by
  intro a b u
  rcases us_13 u with rfl | rfl | rfl | rfl | rfl | rfl | rfl | rfl | rfl | rfl | rfl | rfl | ⟨rfl, rfl | rfl | rfl | rfl | rfl | rfl⟩
  · rw [u3_ap, if_neg (by omega)]; exact h _ _ u
  · rw [u3_ap, if_neg (by omega)]; exact h _ _ u
  · rw [u3_ap, if_neg (by omega)]; exact h _ _ u
  · rw [u3_ap, if_neg (by omega)]; exact h _ _ u
  · rw [u3_ap, if_neg (by omega)]; exact h _ _ u
  · rw [u3_ap, if_neg (by omega)]; exact h _ _ u
  · rw [u3_ap, if_neg (by omega)]; exact h _ _ u
  · rw [u3_ap, if_neg (by omega)]; exact h _ _ u
  · rw [u3_ap, if_neg (by omega)]; exact h _ _ u
  · rw [u3_ap, if_neg (by omega)]; exact h _ _ u
  · rw [u3_ap, if_neg (by omega)]; exact h _ _ u
  · rw [u3_ap, if_neg (by omega)]; exact h _ _ u
  · rw [u3_ap, if_neg (by omega)]; exact h _ _ u
  · rw [u3_ap, if_neg (by omega)]; exact h _ _ u
  · rw [u3_ap, if_neg (by omega)]; exact h _ _ u
  · rw [u3_ap, if_neg (by omega)]; exact h _ _ u
  · rw [u3_ap, if_pos ⟨rfl, rfl, rfl⟩, ← hv]; rfl
  · rw [u3_ap, if_neg (by omega)]; exact h _ _ u
theorem meq_s34 (h : EQ n (MA Y S) (A r)) (hv : v = v') : EQ n (MA Y (va_up S 34 v)) (u3 A r 12 5 v' r) := by
  intro a b u
  rcases us_13 u with rfl | rfl | rfl | rfl | rfl | rfl | rfl | rfl | rfl | rfl | rfl | rfl | ⟨rfl, rfl | rfl | rfl | rfl | rfl | rfl⟩
  · rw [u3_ap, if_neg (by omega)]; exact h _ _ u
  · rw [u3_ap, if_neg (by omega)]; exact h _ _ u
  · rw [u3_ap, if_neg (by omega)]; exact h _ _ u
  · rw [u3_ap, if_neg (by omega)]; exact h _ _ u
  · rw [u3_ap, if_neg (by omega)]; exact h _ _ u
  · rw [u3_ap, if_neg (by omega)]; exact h _ _ u
  · rw [u3_ap, if_neg (by omega)]; exact h _ _ u
  · rw [u3_ap, if_neg (by omega)]; exact h _ _ u
  · rw [u3_ap, if_neg (by omega)]; exact h _ _ u
  · rw [u3_ap, if_neg (by omega)]; exact h _ _ u
  · rw [u3_ap, if_neg (by omega)]; exact h _ _ u
  · rw [u3_ap, if_neg (by omega)]; exact h _ _ u
  · rw [u3_ap, if_neg (by omega)]; exact h _ _ u
  · rw [u3_ap, if_neg (by omega)]; exact h _ _ u
  · rw [u3_ap, if_neg (by omega)]; exact h _ _ u
  · rw [u3_ap, if_neg (by omega)]; exact h _ _ u
  · rw [u3_ap, if_neg (by omega)]; exact h _ _ u
  · rw [u3_ap, if_pos ⟨rfl, rfl, rfl⟩, ← hv]; rfl
theorem meq_o (h : EQ n (MA Y S) (A r)) {Y' : tR} (hY : ∀ i, ¬ (i = 17 ∨ i = 18) → Y' i = Y i) : EQ n (MA Y' S) (A r) := by
  intro a b u
  have e := h a b u
  unfold MA at e ⊢
  rw [hY 0 (by decide), hY 1 (by decide), hY 19 (by decide), hY 20 (by decide), hY 3 (by decide), hY 4 (by decide), hY 5 (by decide), hY 2 (by decide)]
  exact e
end
theorem fr_o {Y Y' : tR} {S : Nat → Int32} (hY : ∀ i, ¬ (i = 17 ∨ i = 18) → Y' i = Y i) : FRh Y S Y' S := ⟨fun i hi => hY i (by omega), fun _ _ => rfl⟩
theorem i_wi_nI {j : Nat} (h : j < 12) : i_wi (nI j) 0 11 = nI j := by
  have : ∀ j, j < 12 → i_wi (nI j) 0 11 = nI j := by decide +kernel
  exact this j h
theorem wi_mm (x : Int32) : i_wi x 0 99 = i_max 0 (i_min 99 x) := by
  unfold i_wi i_max i_min
  have a : (0 : Int32).toInt = 0 := rfl
  have b : (99 : Int32).toInt = 99 := rfl
  by_cases h1 : x < 0
  · have h2 : x < 99 := by rw [Int32.lt_iff_toInt_lt] at *; omega
    rw [if_pos h1, if_pos h2, if_neg (by rw [Int32.lt_iff_toInt_lt] at *; omega)]
  · rw [if_neg h1]
    by_cases h2 : 99 < x
    · rw [if_pos h2, if_neg (show ¬ x < 99 by rw [Int32.lt_iff_toInt_lt] at *; omega)]; rfl
    · rw [if_neg h2]
      by_cases h3 : x < 99
      · rw [if_pos h3]
        by_cases h4 : 0 < x
        · rw [if_pos h4]
        · rw [if_neg h4]; exact Int32.toInt_inj.mp (by rw [Int32.lt_iff_toInt_lt] at *; omega)
      · rw [if_neg h3, if_pos (by decide)]; exact Int32.toInt_inj.mp (by rw [Int32.lt_iff_toInt_lt] at *; omega)
theorem mm_rng (x : Int32) : 0 ≤ i_max 0 (i_min 99 x) ∧ i_max 0 (i_min 99 x) ≤ 99 := by
  have a : (0 : Int32).toInt = 0 := rfl
  have b : (99 : Int32).toInt = 99 := rfl
  unfold i_max i_min
  repeat' split
  all_goals (constructor <;> (simp only [Int32.lt_iff_toInt_lt, Int32.le_iff_toInt_le] at *; omega))
theorem sq_rng {R Lr : tR} {z : Nat → Nat} {p : Nat} {a b c w : Int32} : 0 ≤ sq R Lr z p a b c w ∧ sq R Lr z p a b c w ≤ 99 := mm_rng _
theorem imax1_t {v : Int32} (h : 1 ≤ v) : i_max 1 v = v := by
  unfold i_max
  by_cases q : 1 < v
  · rw [if_pos q]
  · rw [if_neg q]; exact Int32.toInt_inj.mp (by simp only [Int32.lt_iff_toInt_lt, Int32.le_iff_toInt_le] at *; omega)
theorem imax1_f {v : Int32} (h : ¬ 1 ≤ v) : i_max 1 v = 1 := by
  unfold i_max
  rw [if_neg (by simp only [Int32.lt_iff_toInt_lt, Int32.le_iff_toInt_le] at *; omega)]
theorem add2_ge {v : Int32} (h : 0 ≤ v ∧ v ≤ 99) : 1 ≤ v + 2 := by
  have a : (0 : Int32).toInt = 0 := rfl
  have b : (99 : Int32).toInt = 99 := rfl
  have c : (1 : Int32).toInt = 1 := rfl
  have e : (2 : Int32).toInt = 2 := rfl
  simp only [Int32.le_iff_toInt_le, a, b, c] at *
  rw [Int32.toInt_add, e, Int.bmod_eq_of_le (by omega) (by omega)]
  omega
/-- the model as road R (its n owners, p passes, law t) -/
def MX (Y : tR) (S : Nat → Int32) (R Lr : tR) (z : Nat → Nat) (n t : Nat) : Prop := EQ n (MA Y S) R ∧ R 12 0 = nI n ∧ n ≤ 12 ∧ R 12 4 = nI t ∧ t < 6 ∧ Lw Lr z ∧ LM Y t Lr z ∧ ∀ j, j < n → 0 ≤ R 4 j
theorem x_158 {d : Nat} {g : mG} {N : Nat} {P : Nat → mC} {Y : tR} {S : Nat → Int32} {R Lr : tR} {z : Nat → Nat} {n t : Nat} (hX : MX Y S R Lr z n t) {p j : Nat} (hp : p < 3) (hj : j < n) {w : Int32} (hd : 2 ≤ d) : Wp d 158 0 (ment 158 [.ref 92, .int (nI p), .int (nI j), .int w]) [] (N, H3 g P (mm Y S)) (fun v M' => v = some (.int (sq R Lr z p (nI j) (R 1 j) (R 3 j) w)) ∧ ∃ Y', M' = (N, H3 g P (mm Y' S)) ∧ ∀ i, ¬ (i = 17 ∨ i = 18) → Y' i = Y i) := by
  obtain ⟨hq, hn, hn12, hlw, ht, hL, hM, hB⟩ := hX
  have e8 : S 8 = R 12 2 := hq.hi (a := 12) (b := 2) (by decide) (by decide) (by decide)
  have e5 : S 5 = R 12 1 := hq.hi (a := 12) (b := 1) (by decide) (by decide) (by decide)
  have e15 : S 15 = nI t := (hq.hi (a := 12) (b := 4) (by decide) (by decide) (by decide)).trans hlw
  have m1 : Y 1 j = R 1 j := hq.lo (a := 1) (b := j) (by decide) hj
  have m3 : Y 2 (5 * j + 1) = R 3 j := hq.lo (a := 3) (b := j) (by decide) hj
  show Wp _ 158 0 [.ref 92, .int (nI p), .int (nI j), .int w] [] _ _
  refine W_aload_n d_158_0 rfl (by decide) ?_
  refine W_getf d_158_1 o_158 k_7_68 rfl rfl ?_
  refine W_iconst d_158_4 (v := 0) (by decide) ?_
  refine W_aload_n d_158_5 rfl (by decide) ?_
  refine W_getf d_158_6 o_158 k_7_103 rfl rfl ?_
  refine W_mst (a := 18) d_158_9 rfl (by decide) (n := 6) rfl (vp_in_nI (n := 0) (by decide) (by decide)) (show (0 : Int32).toNatClampNeg = 0 from rfl) ?_
  refine W_aload_n d_158_10 rfl (by decide) ?_
  refine W_getf d_158_11 o_158 k_7_68 rfl rfl ?_
  refine W_iconst d_158_14 (v := 1) (by decide) ?_
  refine W_iload_n d_158_15 rfl ?_
  refine W_mst (a := 18) d_158_16 rfl (by decide) (n := 6) rfl (vp_in_nI (n := 1) (by decide) (by decide)) (show (1 : Int32).toNatClampNeg = 1 from rfl) ?_
  refine W_aload_n d_158_17 rfl (by decide) ?_
  refine W_getf d_158_18 o_158 k_7_68 rfl rfl ?_
  refine W_iconst d_158_21 (v := 2) (by decide) ?_
  refine W_iload_n d_158_22 rfl ?_
  refine W_iconst d_158_23 (v := (-1)) (by decide) ?_
  refine W_icmp_ne (tgt := 31) d_158_24 (by decide) (fun h24 => ?_) (fun h24 => absurd h24 (fun q => by rw [← Int32.toInt_inj, nI_toInt (by omega)] at q; have : (-1 : Int32).toInt = -1 := rfl; omega))
  refine W_aload_n d_158_31 rfl (by decide) ?_
  refine W_getf d_158_32 o_158 k_7_13 rfl rfl ?_
  refine W_iload_n d_158_35 rfl ?_
  refine W_iconst d_158_36 (v := 0) (by decide) ?_
  refine W_bipush d_158_37 (v := 11) (by decide) ?_
  refine W_callS d_158_39 o_158 k_7_176 (by omega) x_136 rfl (Nat.le_of_ble_eq_true rfl) ?_
  rw [i_wi_nI (by omega)]
  refine W_mld (a := 1) d_158_42 rfl (by decide) (n := 12) rfl (vp_in_nI (by omega) (by decide)) ((congrArg (Y 1) (nI_clamp (by omega))).trans m1) ?_
  refine W_mst (a := 18) d_158_43 rfl (by decide) (n := 6) rfl (vp_in_nI (n := 2) (by decide) (by decide)) (show (2 : Int32).toNatClampNeg = 2 from rfl) ?_
  refine W_aload_n d_158_44 rfl (by decide) ?_
  refine W_getf d_158_45 o_158 k_7_68 rfl rfl ?_
  refine W_iconst d_158_48 (v := 3) (by decide) ?_
  refine W_iload_n d_158_49 rfl ?_
  refine W_iconst d_158_50 (v := (-1)) (by decide) ?_
  refine W_icmp_ne (tgt := 58) d_158_51 (by decide) (fun h51 => ?_) (fun h51 => absurd h51 (fun q => by rw [← Int32.toInt_inj, nI_toInt (by omega)] at q; have : (-1 : Int32).toInt = -1 := rfl; omega))
  refine W_aload_n d_158_58 rfl (by decide) ?_
  refine W_getf d_158_59 o_158 k_7_16 rfl rfl ?_
  refine W_iconst d_158_62 (v := 5) (by decide) ?_
  refine W_iload_n d_158_63 rfl ?_
  refine W_iconst d_158_64 (v := 0) (by decide) ?_
  refine W_bipush d_158_65 (v := 11) (by decide) ?_
  refine W_callS d_158_67 o_158 k_7_176 (by omega) x_136 rfl (Nat.le_of_ble_eq_true rfl) ?_
  rw [i_wi_nI (by omega)]
  refine W_imul d_158_70 ?_
  rw [show ((5 * nI j : Int32)) = nI (5 * j) from pk_mul 5 j]
  refine W_iconst d_158_71 (v := 1) (by decide) ?_
  refine W_iadd d_158_72 ?_
  rw [show ((nI (5 * j) + 1 : Int32)) = nI (5 * j + 1) from nI_add (5 * j) 1]
  refine W_mld (a := 2) d_158_73 rfl (by decide) (n := 60) rfl (vp_in_nI (by omega) (by decide)) ((congrArg (Y 2) (nI_clamp (by omega))).trans m3) ?_
  refine W_mst (a := 18) d_158_74 rfl (by decide) (n := 6) rfl (vp_in_nI (n := 3) (by decide) (by decide)) (show (3 : Int32).toNatClampNeg = 3 from rfl) ?_
  refine W_aload_n d_158_75 rfl (by decide) ?_
  refine W_getf d_158_76 o_158 k_7_68 rfl rfl ?_
  refine W_iconst d_158_79 (v := 4) (by decide) ?_
  refine W_iload_n d_158_80 rfl ?_
  refine W_iconst d_158_81 (v := (-1)) (by decide) ?_
  refine W_icmp_ne (tgt := 89) d_158_82 (by decide) (fun h82 => ?_) (fun h82 => absurd h82 (fun q => by rw [← Int32.toInt_inj, nI_toInt (by omega)] at q; have : (-1 : Int32).toInt = -1 := rfl; omega))
  refine W_iload_n d_158_89 rfl ?_
  refine W_mst (a := 18) d_158_90 rfl (by decide) (n := 6) rfl (vp_in_nI (n := 4) (by decide) (by decide)) (show (4 : Int32).toNatClampNeg = 4 from rfl) ?_
  refine W_aload_n d_158_91 rfl (by decide) ?_
  refine W_getf d_158_92 o_158 k_7_68 rfl rfl ?_
  refine W_iconst d_158_95 (v := 5) (by decide) ?_
  refine W_aload_n d_158_96 rfl (by decide) ?_
  refine W_getf d_158_97 o_158 k_7_100 rfl rfl ?_
  refine W_mst (a := 18) d_158_100 rfl (by decide) (n := 6) rfl (vp_in_nI (n := 5) (by decide) (by decide)) (show (5 : Int32).toNatClampNeg = 5 from rfl) ?_
  refine W_aload_n d_158_101 rfl (by decide) ?_
  refine W_iload_n d_158_102 rfl ?_
  refine W_callVQ d_158_103 o_158 (Or.inl k_7_179) (by omega) (x_156 ht e15 (d := d - 1) (Y := u2 (u2 (u2 (u2 (u2 (u2 Y 18 0 (S 8)) 18 1 w) 18 2 (R 1 j)) 18 3 (R 3 j)) 18 4 (nI j)) 18 5 (S 5)) (F := fx (R 12 2) w (R 1 j) (R 3 j) (nI j) (R 12 1)) (fun m hm => by
      have : m = 0 ∨ m = 1 ∨ m = 2 ∨ m = 3 ∨ m = 4 ∨ m = 5 := by omega
      rcases this with rfl | rfl | rfl | rfl | rfl | rfl <;> simp [fx, u2_ap, e8, e5]) hL hM hp (by omega)) rfl (mrecv_of rfl o_156.symm) rfl (Nat.le_of_ble_eq_true rfl) ?_
  rintro _ _ ⟨rfl, Yr, rfl⟩
  refine W_iconst d_158_106 (v := 0) (by decide) ?_
  refine W_bipush d_158_107 (v := 99) (by decide) ?_
  refine W_callS d_158_109 o_158 k_7_176 (by omega) x_136 rfl (Nat.le_of_ble_eq_true rfl) ?_
  refine W_iret d_158_112 rt_158 rfl ?_
  refine ⟨congrArg (fun z => some (Value.int z)) (wi_mm _), _, rfl, fun i hi => ?_⟩
  rw [va_oth _ _ (by omega), u2_row (by omega), u2_row (by omega), u2_row (by omega), u2_row (by omega), u2_row (by omega), u2_row (by omega)]
theorem x_158n {d : Nat} {g : mG} {N : Nat} {P : Nat → mC} {Y : tR} {S : Nat → Int32} {R Lr : tR} {z : Nat → Nat} {n t : Nat} (hX : MX Y S R Lr z n t) (hd : 2 ≤ d) : Wp d 158 0 (ment 158 [.ref 92, .int 0, .int (-1), .int 0]) [] (N, H3 g P (mm Y S)) (fun v M' => v = some (.int (sq R Lr z 0 0 0 0 0)) ∧ ∃ Y', M' = (N, H3 g P (mm Y' S)) ∧ ∀ i, ¬ (i = 17 ∨ i = 18) → Y' i = Y i) := by
  obtain ⟨hq, hn, hn12, hlw, ht, hL, hM, hB⟩ := hX
  have e8 : S 8 = R 12 2 := hq.hi (a := 12) (b := 2) (by decide) (by decide) (by decide)
  have e5 : S 5 = R 12 1 := hq.hi (a := 12) (b := 1) (by decide) (by decide) (by decide)
  have e15 : S 15 = nI t := (hq.hi (a := 12) (b := 4) (by decide) (by decide) (by decide)).trans hlw
  show Wp _ 158 0 [.ref 92, .int (nI 0), .int (-1), .int 0] [] _ _
  refine W_aload_n d_158_0 rfl (by decide) ?_
  refine W_getf d_158_1 o_158 k_7_68 rfl rfl ?_
  refine W_iconst d_158_4 (v := 0) (by decide) ?_
  refine W_aload_n d_158_5 rfl (by decide) ?_
  refine W_getf d_158_6 o_158 k_7_103 rfl rfl ?_
  refine W_mst (a := 18) d_158_9 rfl (by decide) (n := 6) rfl (vp_in_nI (n := 0) (by decide) (by decide)) (show (0 : Int32).toNatClampNeg = 0 from rfl) ?_
  refine W_aload_n d_158_10 rfl (by decide) ?_
  refine W_getf d_158_11 o_158 k_7_68 rfl rfl ?_
  refine W_iconst d_158_14 (v := 1) (by decide) ?_
  refine W_iload_n d_158_15 rfl ?_
  refine W_mst (a := 18) d_158_16 rfl (by decide) (n := 6) rfl (vp_in_nI (n := 1) (by decide) (by decide)) (show (1 : Int32).toNatClampNeg = 1 from rfl) ?_
  refine W_aload_n d_158_17 rfl (by decide) ?_
  refine W_getf d_158_18 o_158 k_7_68 rfl rfl ?_
  refine W_iconst d_158_21 (v := 2) (by decide) ?_
  refine W_iload_n d_158_22 rfl ?_
  refine W_iconst d_158_23 (v := (-1)) (by decide) ?_
  refine W_icmp_ne (tgt := 31) d_158_24 (by decide) (fun h24 => absurd h24 (by decide)) (fun _ => ?_)
  refine W_iconst d_158_27 (v := 0) (by decide) ?_
  refine W_goto (tgt := 43) d_158_28 (by decide) ?_
  refine W_mst (a := 18) d_158_43 rfl (by decide) (n := 6) rfl (vp_in_nI (n := 2) (by decide) (by decide)) (show (2 : Int32).toNatClampNeg = 2 from rfl) ?_
  refine W_aload_n d_158_44 rfl (by decide) ?_
  refine W_getf d_158_45 o_158 k_7_68 rfl rfl ?_
  refine W_iconst d_158_48 (v := 3) (by decide) ?_
  refine W_iload_n d_158_49 rfl ?_
  refine W_iconst d_158_50 (v := (-1)) (by decide) ?_
  refine W_icmp_ne (tgt := 58) d_158_51 (by decide) (fun h51 => absurd h51 (by decide)) (fun _ => ?_)
  refine W_iconst d_158_54 (v := 0) (by decide) ?_
  refine W_goto (tgt := 74) d_158_55 (by decide) ?_
  refine W_mst (a := 18) d_158_74 rfl (by decide) (n := 6) rfl (vp_in_nI (n := 3) (by decide) (by decide)) (show (3 : Int32).toNatClampNeg = 3 from rfl) ?_
  refine W_aload_n d_158_75 rfl (by decide) ?_
  refine W_getf d_158_76 o_158 k_7_68 rfl rfl ?_
  refine W_iconst d_158_79 (v := 4) (by decide) ?_
  refine W_iload_n d_158_80 rfl ?_
  refine W_iconst d_158_81 (v := (-1)) (by decide) ?_
  refine W_icmp_ne (tgt := 89) d_158_82 (by decide) (fun h82 => absurd h82 (by decide)) (fun _ => ?_)
  refine W_iconst d_158_85 (v := 0) (by decide) ?_
  refine W_goto (tgt := 90) d_158_86 (by decide) ?_
  refine W_mst (a := 18) d_158_90 rfl (by decide) (n := 6) rfl (vp_in_nI (n := 4) (by decide) (by decide)) (show (4 : Int32).toNatClampNeg = 4 from rfl) ?_
  refine W_aload_n d_158_91 rfl (by decide) ?_
  refine W_getf d_158_92 o_158 k_7_68 rfl rfl ?_
  refine W_iconst d_158_95 (v := 5) (by decide) ?_
  refine W_aload_n d_158_96 rfl (by decide) ?_
  refine W_getf d_158_97 o_158 k_7_100 rfl rfl ?_
  refine W_mst (a := 18) d_158_100 rfl (by decide) (n := 6) rfl (vp_in_nI (n := 5) (by decide) (by decide)) (show (5 : Int32).toNatClampNeg = 5 from rfl) ?_
  refine W_aload_n d_158_101 rfl (by decide) ?_
  refine W_iload_n d_158_102 rfl ?_
  refine W_callVQ d_158_103 o_158 (Or.inl k_7_179) (by omega) (x_156 ht e15 (d := d - 1) (Y := u2 (u2 (u2 (u2 (u2 (u2 Y 18 0 (S 8)) 18 1 0) 18 2 0) 18 3 0) 18 4 0) 18 5 (S 5)) (F := fx (R 12 2) 0 0 0 0 (R 12 1)) (fun m hm => by
      have : m = 0 ∨ m = 1 ∨ m = 2 ∨ m = 3 ∨ m = 4 ∨ m = 5 := by omega
      rcases this with rfl | rfl | rfl | rfl | rfl | rfl <;> simp [fx, u2_ap, e8, e5]) hL hM (p := 0) (by decide) (by omega)) rfl (mrecv_of rfl o_156.symm) rfl (Nat.le_of_ble_eq_true rfl) ?_
  rintro _ _ ⟨rfl, Yr, rfl⟩
  refine W_iconst d_158_106 (v := 0) (by decide) ?_
  refine W_bipush d_158_107 (v := 99) (by decide) ?_
  refine W_callS d_158_109 o_158 k_7_176 (by omega) x_136 rfl (Nat.le_of_ble_eq_true rfl) ?_
  refine W_iret d_158_112 rt_158 rfl ?_
  refine ⟨congrArg (fun z => some (Value.int z)) (wi_mm _), _, rfl, fun i hi => ?_⟩
  rw [va_oth _ _ (by omega), u2_row (by omega), u2_row (by omega), u2_row (by omega), u2_row (by omega), u2_row (by omega), u2_row (by omega)]
