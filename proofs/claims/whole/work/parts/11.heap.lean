/-! THE HEAP AS A FUNCTION OF THE STATE (wip/whole/gen11.py) -/
def rb (r : Nat) : Nat := 1 + 18 * r
def lb (t : Nat) : Nat := 60 + 4 * t
def sb (s : Nat) : Nat := 84 + 2 * s
def H3 (g : mG) (P Qm : Nat → mC) : Nat → mC := fun k => if k < 92 then P k else if k < 117 then Qm k else ro g k
abbrev tR : Type := Nat → Nat → Int32
def rtF (E : Nat → Int32) : List Value := [.ref (rb 0), .ref (rb 1), .ref (rb 2), .int (E 0), .ref 55, .ref 57, .int (E 1), .ref 58, .ref 59]
def rdF (R : tR) (r : Nat) : List Value := [.ref (rb r + 1), .int (R 12 0), .ref (rb r + 2), .ref (rb r + 3), .ref (rb r + 4), .int (R 12 1), .int (R 12 2), .int (R 12 3), .int (R 12 4), .int (R 12 5), .ref (rb r + 5)]
def owF (R : tR) (j : Nat) : List Value := [.int (R 0 j), .int (R 1 j), .int (R 2 j), .int (R 3 j), .int (R 4 j), .int (R 5 j), .int (R 6 j), .int (R 7 j), .int (R 8 j)]
def lref (v : Int32) : Value := if v = -1 then .null else .ref (lb v.toNatClampNeg)
def rrF (B : tR) : List Value := [.ref 56, .int (B 1 0), .int (B 1 1), .int (B 1 2), .int (B 1 3), .int (B 1 4), lref (B 1 5)]
def lwF (T : tR) (t : Nat) : List Value := [.ref (lb t + 1), .ref (lb t + 2), .ref (lb t + 3), .int (T 2 0)]
def shF (K : tR) (s : Nat) : List Value := [.int (K 1 0), .int (K 1 1), .ref (sb s + 1)]
def owa (r : Nat) : Nat → Option Nat := fun j => if j < 12 then some (rb r + 6 + j) else none
def rdC (R : tR) (f : Nat → Int32) (r k : Nat) : mC :=
  if k = 0 then .inr (.inr (4, rdF R r)) else if k = 1 then .inr (.inl (2, 12, owa r)) else if k = 2 then .inl (0, 6, R 9) else if k = 3 then .inl (0, 6, R 10)
  else if k = 4 then .inl (0, 6, R 11) else if k = 5 then .inl (0, 6, f) else .inr (.inr (2, owF R (k - 6)))
def lwC (T : tR) (f : Nat → Int32) (t k : Nat) : mC := if k = 0 then .inr (.inr (0, lwF T t)) else if k = 1 then .inl (0, 160, T 0) else if k = 2 then .inl (0, 4, T 1) else .inl (0, 160, f)
def shC (K : tR) (s k : Nat) : mC := if k = 0 then .inr (.inr (5, shF K s)) else .inl (0, 40, K 0)
def txa : Nat → Option Nat := fun j => if j < 6 then some (lb j) else none
def sha : Nat → Option Nat := fun j => if j < 4 then some (sb j) else none
/-- the component's cells: roads A, texts T, sheets K, reader B, the object's own E, the lot l, what is written over and over G -/
def cc (A T K : Nat → tR) (B : tR) (E : Nat → Int32) (l : Int64) (G : tR) : Nat → mC := fun k =>
  if k = 0 then .inr (.inr (6, rtF E))
  else if k < 55 then rdC (A ((k - 1) / 18)) (G ((k - 1) / 18)) ((k - 1) / 18) ((k - 1) % 18)
  else if k = 55 then .inr (.inr (3, rrF B)) else if k = 56 then .inl (0, 160, B 0) else if k = 57 then .inr (.inl (0, 6, txa)) else if k = 58 then .inr (.inl (5, 4, sha)) else if k = 59 then .inr (.inr (1, [.long l]))
  else if k < 84 then lwC (T ((k - 60) / 4)) (G (3 + (k - 60) / 4)) ((k - 60) / 4) ((k - 60) % 4)
  else shC (K ((k - 84) / 2)) ((k - 84) / 2) ((k - 84) % 2)
def mln (a : Nat) : Nat := [12, 12, 60, 6, 6, 6, 160, 1200, 24, 78, 5, 4, 4, 160, 36, 96, 200, 200, 6, 12, 12, 66, 12, 6].getD a 0
def mdF (S : Nat → Int32) : List Value := [.int (S 0), .ref 93, .ref 94, .ref 95, .ref 96, .int (S 5), .ref 97, .ref 98, .int (S 8), .int (S 9), .ref 99, .int (S 11), .ref 100, .ref 101, .int (S 14), .int (S 15), .int (S 16), .ref 102, .ref 103, .ref 104, .ref 105, .ref 106, .ref 107, .int (S 23), .int (S 24), .int (S 25), .int (S 26), .ref 108, .ref 109, .int (S 29), .int (S 30), .int (S 31), .ref 110, .ref 111, .int (S 34), .ref 112, .ref 113, .ref 114, .int (S 38), .ref 115, .int (S 40), .ref 116]
/-- the model's cells: its rows Y, its numbers S (by their fields' places) -/
def mm (Y : tR) (S : Nat → Int32) : Nat → mC := fun k => if k = 92 then .inr (.inr (7, mdF S)) else .inl (0, mln (k - 93), Y (k - 93))
def u3 (A : Nat → tR) (r i j : Nat) (v : Int32) : Nat → tR := va_up A r (va_up (A r) i (va_up (A r i) j v))
theorem u3_ap (A : Nat → tR) (r i j r' i' j' : Nat) (v : Int32) : u3 A r i j v r' i' j' = if r' = r ∧ i' = i ∧ j' = j then v else A r' i' j' := by
  unfold u3 va_up
  by_cases h1 : r' = r
  · subst h1
    by_cases h2 : i' = i
    · subst h2
      by_cases h3 : j' = j
      · simp [h3]
      · simp [h3]
    · simp [h2]
  · simp [h1]
section HPL
variable {g : mG} {N : Nat} {A T K : Nat → tR} {B : tR} {E : Nat → Int32} {l : Int64} {G : tR} {P Qm : Nat → mC} {Y : tR} {S : Nat → Int32} {r : Nat}
theorem h3_lt {k : Nat} (h : k < 92) : H3 g P Qm k = P k := by unfold H3; rw [if_pos h]
theorem cc_rd (hr : r < 3) {k : Nat} (hk : k < 18) : H3 g (cc A T K B E l G) Qm (rb r + k) = rdC (A r) (G r) r k := by
  unfold rb
  rw [h3_lt (by omega)]
  unfold cc
  rw [if_neg (by omega), if_pos (by omega), show (1 + 18 * r + k - 1) / 18 = r by omega, show (1 + 18 * r + k - 1) % 18 = k by omega]
theorem h_road (hr : r < 3) : H3 g (cc A T K B E l G) Qm (rb r) = .inr (.inr (4, rdF (A r) r)) := cc_rd (k := 0) hr (by decide)
theorem h_owners (hr : r < 3) : H3 g (cc A T K B E l G) Qm (rb r + 1) = .inr (.inl (2, 12, owa r)) := cc_rd (k := 1) hr (by decide)
theorem h_lies (hr : r < 3) : H3 g (cc A T K B E l G) Qm (rb r + 2) = .inl (0, 6, A r 9) := cc_rd (k := 2) hr (by decide)
theorem h_pho (hr : r < 3) : H3 g (cc A T K B E l G) Qm (rb r + 3) = .inl (0, 6, A r 10) := cc_rd (k := 3) hr (by decide)
theorem h_psi (hr : r < 3) : H3 g (cc A T K B E l G) Qm (rb r + 4) = .inl (0, 6, A r 11) := cc_rd (k := 4) hr (by decide)
theorem h_facts (hr : r < 3) : H3 g (cc A T K B E l G) Qm (rb r + 5) = .inl (0, 6, G r) := cc_rd (k := 5) hr (by decide)
theorem h_owner (hr : r < 3) {j : Nat} (hj : j < 12) : H3 g (cc A T K B E l G) Qm (rb r + 6 + j) = .inr (.inr (2, owF (A r) j)) := by
  rw [Nat.add_assoc, cc_rd hr (by omega)]
  unfold rdC
  rw [if_neg (by omega), if_neg (by omega), if_neg (by omega), if_neg (by omega), if_neg (by omega), if_neg (by omega), Nat.add_sub_cancel_left]
theorem cc_lw {t : Nat} (ht : t < 6) {k : Nat} (hk : k < 4) : H3 g (cc A T K B E l G) Qm (lb t + k) = lwC (T t) (G (3 + t)) t k := by
  unfold lb
  rw [h3_lt (by omega)]
  unfold cc
  rw [if_neg (by omega), if_neg (by omega), if_neg (by omega), if_neg (by omega), if_neg (by omega), if_neg (by omega), if_neg (by omega), if_pos (by omega), show (60 + 4 * t + k - 60) / 4 = t by omega, show (60 + 4 * t + k - 60) % 4 = k by omega]
theorem h_law {t : Nat} (ht : t < 6) : H3 g (cc A T K B E l G) Qm (lb t) = .inr (.inr (0, lwF (T t) t)) := cc_lw (k := 0) ht (by decide)
theorem h_steps {t : Nat} (ht : t < 6) : H3 g (cc A T K B E l G) Qm (lb t + 1) = .inl (0, 160, T t 0) := cc_lw (k := 1) ht (by decide)
theorem h_starts {t : Nat} (ht : t < 6) : H3 g (cc A T K B E l G) Qm (lb t + 2) = .inl (0, 4, T t 1) := cc_lw (k := 2) ht (by decide)
theorem h_stack {t : Nat} (ht : t < 6) : H3 g (cc A T K B E l G) Qm (lb t + 3) = .inl (0, 160, G (3 + t)) := cc_lw (k := 3) ht (by decide)
theorem cc_sh {s : Nat} (hs : s < 4) {k : Nat} (hk : k < 2) : H3 g (cc A T K B E l G) Qm (sb s + k) = shC (K s) s k := by
  unfold sb
  rw [h3_lt (by omega)]
  unfold cc
  rw [if_neg (by omega), if_neg (by omega), if_neg (by omega), if_neg (by omega), if_neg (by omega), if_neg (by omega), if_neg (by omega), if_neg (by omega), show (84 + 2 * s + k - 84) / 2 = s by omega, show (84 + 2 * s + k - 84) % 2 = k by omega]
theorem h_sheet {s : Nat} (hs : s < 4) : H3 g (cc A T K B E l G) Qm (sb s) = .inr (.inr (5, shF (K s) s)) := cc_sh (k := 0) hs (by decide)
theorem h_row {s : Nat} (hs : s < 4) : H3 g (cc A T K B E l G) Qm (sb s + 1) = .inl (0, 40, K s 0) := cc_sh (k := 1) hs (by decide)
theorem h_root : H3 g (cc A T K B E l G) Qm 0 = .inr (.inr (6, rtF E)) := rfl
theorem h_reader : H3 g (cc A T K B E l G) Qm 55 = .inr (.inr (3, rrF B)) := rfl
theorem h_tape : H3 g (cc A T K B E l G) Qm 56 = .inl (0, 160, B 0) := rfl
theorem h_texts : H3 g (cc A T K B E l G) Qm 57 = .inr (.inl (0, 6, txa)) := rfl
theorem h_sheets : H3 g (cc A T K B E l G) Qm 58 = .inr (.inl (5, 4, sha)) := rfl
theorem h_lots : H3 g (cc A T K B E l G) Qm 59 = .inr (.inr (1, [.long l])) := rfl
theorem h_ro {k : Nat} (h : 117 ≤ k) : H3 g P Qm k = ro g k := by
  unfold H3
  rw [if_neg (by omega), if_neg (by omega)]
-- writing
theorem ms_eq {P' Qm' : Nat → mC} {q : Nat} {x : mC} (h : ∀ k, va_up (H3 g P Qm) q x k = H3 g P' Qm' k) : mset (N, H3 g P Qm) q x = (N, H3 g P' Qm') := Prod.ext rfl (funext h)
theorem ms_c {P' : Nat → mC} {q : Nat} {x : mC} (hq : q < 92) (h1 : P' q = x) (h2 : ∀ k, k < 92 → k ≠ q → P' k = P k) : mset (N, H3 g P Qm) q x = (N, H3 g P' Qm) := by
  refine ms_eq fun k => ?_
  by_cases e : k = q
  · subst e; rw [va_up_self, h3_lt hq, h1]
  · rw [va_up_ne _ _ e]
    unfold H3
    by_cases hk : k < 92
    · rw [if_pos hk, if_pos hk, h2 k hk e]
    · rw [if_neg hk, if_neg hk]
theorem ms_rd {R' : tR} {f' : Nat → Int32} (hr : r < 3) {q k : Nat} {x : mC} (hq : q = rb r + k) (hk : k < 18) (h1 : rdC R' f' r k = x) (h2 : ∀ i, i < 18 → i ≠ k → rdC R' f' r i = rdC (A r) (G r) r i) : mset (N, H3 g (cc A T K B E l G) Qm) q x = (N, H3 g (cc (va_up A r R') T K B E l (va_up G r f')) Qm) := by
  subst hq
  have hb : rb r = 1 + 18 * r := rfl
  refine ms_c (by omega) ?_ ?_
  · have := cc_rd (g := g) (A := va_up A r R') (T := T) (K := K) (B := B) (E := E) (l := l) (G := va_up G r f') (Qm := Qm) hr hk
    rw [h3_lt (by omega), va_up_self, va_up_self] at this
    rw [this, h1]
  · intro i hi hne
    by_cases h0 : i = 0
    · subst h0; rfl
    · by_cases h55 : i < 55
      · unfold cc
        rw [if_neg h0, if_neg h0, if_pos h55, if_pos h55]
        by_cases hir : (i - 1) / 18 = r
        · rw [hir, va_up_self, va_up_self]
          exact h2 _ (Nat.mod_lt _ (by decide)) (by omega)
        · rw [va_up_ne _ _ hir, va_up_ne _ _ hir]
      · unfold cc
        rw [if_neg h0, if_neg h0, if_neg h55, if_neg h55]
        by_cases h5 : i < 60
        · obtain rfl | rfl | rfl | rfl | rfl : i = 55 ∨ i = 56 ∨ i = 57 ∨ i = 58 ∨ i = 59 := by omega
          all_goals rfl
        · have n5 : ¬ i = 55 := by omega
          have n6 : ¬ i = 56 := by omega
          have n7 : ¬ i = 57 := by omega
          have n8 : ¬ i = 58 := by omega
          have n9 : ¬ i = 59 := by omega
          simp only [n5, n6, n7, n8, n9, if_false]
          by_cases h84 : i < 84
          · simp only [h84, if_true]
            rw [va_up_ne _ _ (by omega)]
          · simp only [h84, if_false]
theorem up_id {α : Type} (f : Nat → α) (k : Nat) : va_up f k (f k) = f := by
  funext j
  by_cases e : j = k
  · subst e; rw [va_up_self]
  · rw [va_up_ne _ _ e]
theorem ms_rd1 (hr : r < 3) {v : Int32} : mset (N, H3 g (cc A T K B E l G) Qm) (rb r) (.inr (.inr (4, (rdF (A r) r).set 1 (.int v)))) = (N, H3 g (cc (u3 A r 12 0 v) T K B E l G) Qm) := by
  have h := ms_rd (g := g) (N := N) (A := A) (T := T) (K := K) (B := B) (E := E) (l := l) (G := G) (Qm := Qm) (R' := va_up (A r) 12 (va_up (A r 12) 0 v)) (f' := G r) (k := 0) (x := .inr (.inr (4, (rdF (A r) r).set 1 (.int v)))) hr rfl (by decide) rfl (fun i hi hne => by
    unfold rdC owF
    rw [if_neg hne, if_neg hne]
    rfl)
  rw [up_id] at h
  exact h
theorem ms_rd5 (hr : r < 3) {v : Int32} : mset (N, H3 g (cc A T K B E l G) Qm) (rb r) (.inr (.inr (4, (rdF (A r) r).set 5 (.int v)))) = (N, H3 g (cc (u3 A r 12 1 v) T K B E l G) Qm) := by
  have h := ms_rd (g := g) (N := N) (A := A) (T := T) (K := K) (B := B) (E := E) (l := l) (G := G) (Qm := Qm) (R' := va_up (A r) 12 (va_up (A r 12) 1 v)) (f' := G r) (k := 0) (x := .inr (.inr (4, (rdF (A r) r).set 5 (.int v)))) hr rfl (by decide) rfl (fun i hi hne => by
    unfold rdC owF
    rw [if_neg hne, if_neg hne]
    rfl)
  rw [up_id] at h
  exact h
theorem ms_rd6 (hr : r < 3) {v : Int32} : mset (N, H3 g (cc A T K B E l G) Qm) (rb r) (.inr (.inr (4, (rdF (A r) r).set 6 (.int v)))) = (N, H3 g (cc (u3 A r 12 2 v) T K B E l G) Qm) := by
  have h := ms_rd (g := g) (N := N) (A := A) (T := T) (K := K) (B := B) (E := E) (l := l) (G := G) (Qm := Qm) (R' := va_up (A r) 12 (va_up (A r 12) 2 v)) (f' := G r) (k := 0) (x := .inr (.inr (4, (rdF (A r) r).set 6 (.int v)))) hr rfl (by decide) rfl (fun i hi hne => by
    unfold rdC owF
    rw [if_neg hne, if_neg hne]
    rfl)
  rw [up_id] at h
  exact h
theorem ms_rd7 (hr : r < 3) {v : Int32} : mset (N, H3 g (cc A T K B E l G) Qm) (rb r) (.inr (.inr (4, (rdF (A r) r).set 7 (.int v)))) = (N, H3 g (cc (u3 A r 12 3 v) T K B E l G) Qm) := by
  have h := ms_rd (g := g) (N := N) (A := A) (T := T) (K := K) (B := B) (E := E) (l := l) (G := G) (Qm := Qm) (R' := va_up (A r) 12 (va_up (A r 12) 3 v)) (f' := G r) (k := 0) (x := .inr (.inr (4, (rdF (A r) r).set 7 (.int v)))) hr rfl (by decide) rfl (fun i hi hne => by
    unfold rdC owF
    rw [if_neg hne, if_neg hne]
    rfl)
  rw [up_id] at h
  exact h
theorem ms_rd8 (hr : r < 3) {v : Int32} : mset (N, H3 g (cc A T K B E l G) Qm) (rb r) (.inr (.inr (4, (rdF (A r) r).set 8 (.int v)))) = (N, H3 g (cc (u3 A r 12 4 v) T K B E l G) Qm) := by
  have h := ms_rd (g := g) (N := N) (A := A) (T := T) (K := K) (B := B) (E := E) (l := l) (G := G) (Qm := Qm) (R' := va_up (A r) 12 (va_up (A r 12) 4 v)) (f' := G r) (k := 0) (x := .inr (.inr (4, (rdF (A r) r).set 8 (.int v)))) hr rfl (by decide) rfl (fun i hi hne => by
    unfold rdC owF
    rw [if_neg hne, if_neg hne]
    rfl)
  rw [up_id] at h
  exact h
theorem ms_rd9 (hr : r < 3) {v : Int32} : mset (N, H3 g (cc A T K B E l G) Qm) (rb r) (.inr (.inr (4, (rdF (A r) r).set 9 (.int v)))) = (N, H3 g (cc (u3 A r 12 5 v) T K B E l G) Qm) := by
  have h := ms_rd (g := g) (N := N) (A := A) (T := T) (K := K) (B := B) (E := E) (l := l) (G := G) (Qm := Qm) (R' := va_up (A r) 12 (va_up (A r 12) 5 v)) (f' := G r) (k := 0) (x := .inr (.inr (4, (rdF (A r) r).set 9 (.int v)))) hr rfl (by decide) rfl (fun i hi hne => by
    unfold rdC owF
    rw [if_neg hne, if_neg hne]
    rfl)
  rw [up_id] at h
  exact h
theorem ms_lies (hr : r < 3) {f : Nat → Int32} : mset (N, H3 g (cc A T K B E l G) Qm) (rb r + 2) (.inl (0, 6, f)) = (N, H3 g (cc (va_up A r (va_up (A r) 9 f)) T K B E l G) Qm) := by
  have h := ms_rd (g := g) (N := N) (A := A) (T := T) (K := K) (B := B) (E := E) (l := l) (G := G) (Qm := Qm) (R' := va_up (A r) 9 f) (f' := G r) (k := 2) (x := .inl (0, 6, f)) hr rfl (by decide) rfl (fun i hi hne => by
    unfold rdC owF rdF
    obtain rfl | rfl | rfl | rfl | rfl | rfl | h6 : i = 0 ∨ i = 1 ∨ i = 2 ∨ i = 3 ∨ i = 4 ∨ i = 5 ∨ 6 ≤ i := by omega
    · rfl
    · rfl
    · first | rfl | exact absurd rfl hne
    · first | rfl | exact absurd rfl hne
    · first | rfl | exact absurd rfl hne
    · rfl
    · rw [if_neg (by omega), if_neg (by omega), if_neg (by omega), if_neg (by omega), if_neg (by omega), if_neg (by omega), if_neg (by omega), if_neg (by omega), if_neg (by omega), if_neg (by omega), if_neg (by omega), if_neg (by omega)]
      rfl)
  rw [up_id] at h
  exact h
theorem ms_pho (hr : r < 3) {f : Nat → Int32} : mset (N, H3 g (cc A T K B E l G) Qm) (rb r + 3) (.inl (0, 6, f)) = (N, H3 g (cc (va_up A r (va_up (A r) 10 f)) T K B E l G) Qm) := by
  have h := ms_rd (g := g) (N := N) (A := A) (T := T) (K := K) (B := B) (E := E) (l := l) (G := G) (Qm := Qm) (R' := va_up (A r) 10 f) (f' := G r) (k := 3) (x := .inl (0, 6, f)) hr rfl (by decide) rfl (fun i hi hne => by
    unfold rdC owF rdF
    obtain rfl | rfl | rfl | rfl | rfl | rfl | h6 : i = 0 ∨ i = 1 ∨ i = 2 ∨ i = 3 ∨ i = 4 ∨ i = 5 ∨ 6 ≤ i := by omega
    · rfl
    · rfl
    · first | rfl | exact absurd rfl hne
    · first | rfl | exact absurd rfl hne
    · first | rfl | exact absurd rfl hne
    · rfl
    · rw [if_neg (by omega), if_neg (by omega), if_neg (by omega), if_neg (by omega), if_neg (by omega), if_neg (by omega), if_neg (by omega), if_neg (by omega), if_neg (by omega), if_neg (by omega), if_neg (by omega), if_neg (by omega)]
      rfl)
  rw [up_id] at h
  exact h
theorem ms_psi (hr : r < 3) {f : Nat → Int32} : mset (N, H3 g (cc A T K B E l G) Qm) (rb r + 4) (.inl (0, 6, f)) = (N, H3 g (cc (va_up A r (va_up (A r) 11 f)) T K B E l G) Qm) := by
  have h := ms_rd (g := g) (N := N) (A := A) (T := T) (K := K) (B := B) (E := E) (l := l) (G := G) (Qm := Qm) (R' := va_up (A r) 11 f) (f' := G r) (k := 4) (x := .inl (0, 6, f)) hr rfl (by decide) rfl (fun i hi hne => by
    unfold rdC owF rdF
    obtain rfl | rfl | rfl | rfl | rfl | rfl | h6 : i = 0 ∨ i = 1 ∨ i = 2 ∨ i = 3 ∨ i = 4 ∨ i = 5 ∨ 6 ≤ i := by omega
    · rfl
    · rfl
    · first | rfl | exact absurd rfl hne
    · first | rfl | exact absurd rfl hne
    · first | rfl | exact absurd rfl hne
    · rfl
    · rw [if_neg (by omega), if_neg (by omega), if_neg (by omega), if_neg (by omega), if_neg (by omega), if_neg (by omega), if_neg (by omega), if_neg (by omega), if_neg (by omega), if_neg (by omega), if_neg (by omega), if_neg (by omega)]
      rfl)
  rw [up_id] at h
  exact h
theorem ms_facts (hr : r < 3) {f : Nat → Int32} : mset (N, H3 g (cc A T K B E l G) Qm) (rb r + 5) (.inl (0, 6, f)) = (N, H3 g (cc A T K B E l (va_up G r f)) Qm) := by
  have h := ms_rd (g := g) (N := N) (A := A) (T := T) (K := K) (B := B) (E := E) (l := l) (G := G) (Qm := Qm) (R' := A r) (f' := f) (k := 5) (x := .inl (0, 6, f)) hr rfl (by decide) rfl (fun i hi hne => by
    unfold rdC
    obtain rfl | rfl | rfl | rfl | rfl | h6 : i = 0 ∨ i = 1 ∨ i = 2 ∨ i = 3 ∨ i = 4 ∨ 6 ≤ i := by omega
    · rfl
    · rfl
    · rfl
    · rfl
    · rfl
    · have n0 : ¬ i = 0 := by omega
      have n1 : ¬ i = 1 := by omega
      have n2 : ¬ i = 2 := by omega
      have n3 : ¬ i = 3 := by omega
      have n4 : ¬ i = 4 := by omega
      have n5 : ¬ i = 5 := by omega
      simp only [n0, n1, n2, n3, n4, n5, if_false])
  rw [up_id] at h
  exact h
theorem ms_ow0 (hr : r < 3) {j : Nat} (hj : j < 12) {v : Int32} : mset (N, H3 g (cc A T K B E l G) Qm) (rb r + 6 + j) (.inr (.inr (2, (owF (A r) j).set 0 (.int v)))) = (N, H3 g (cc (u3 A r 0 j v) T K B E l G) Qm) := by
  have h := ms_rd (g := g) (N := N) (A := A) (T := T) (K := K) (B := B) (E := E) (l := l) (G := G) (Qm := Qm) (R' := va_up (A r) 0 (va_up (A r 0) j v)) (f' := G r) (q := rb r + 6 + j) (k := 6 + j) (x := .inr (.inr (2, (owF (A r) j).set 0 (.int v)))) hr (Nat.add_assoc _ _ _) (by omega) (by
    unfold rdC
    rw [if_neg (by omega), if_neg (by omega), if_neg (by omega), if_neg (by omega), if_neg (by omega), if_neg (by omega), Nat.add_sub_cancel_left]
    unfold owF
    have e : va_up (A r) 0 (va_up (A r 0) j v) 0 j = v := by rw [va_up_self, va_up_self]
    rw [e]
    rfl) (fun i hi hne => by
    unfold rdC rdF
    obtain rfl | rfl | rfl | rfl | rfl | rfl | h6 : i = 0 ∨ i = 1 ∨ i = 2 ∨ i = 3 ∨ i = 4 ∨ i = 5 ∨ 6 ≤ i := by omega
    · rfl
    · rfl
    · rfl
    · rfl
    · rfl
    · rfl
    · rw [if_neg (by omega), if_neg (by omega), if_neg (by omega), if_neg (by omega), if_neg (by omega), if_neg (by omega), if_neg (by omega), if_neg (by omega), if_neg (by omega), if_neg (by omega), if_neg (by omega), if_neg (by omega)]
      unfold owF
      have e : va_up (A r) 0 (va_up (A r 0) j v) 0 (i - 6) = A r 0 (i - 6) := by rw [va_up_self, va_up_ne _ _ (by omega)]
      rw [e]
      rfl)
  rw [up_id] at h
  exact h
theorem ms_ow1 (hr : r < 3) {j : Nat} (hj : j < 12) {v : Int32} : mset (N, H3 g (cc A T K B E l G) Qm) (rb r + 6 + j) (.inr (.inr (2, (owF (A r) j).set 1 (.int v)))) = (N, H3 g (cc (u3 A r 1 j v) T K B E l G) Qm) := by
  have h := ms_rd (g := g) (N := N) (A := A) (T := T) (K := K) (B := B) (E := E) (l := l) (G := G) (Qm := Qm) (R' := va_up (A r) 1 (va_up (A r 1) j v)) (f' := G r) (q := rb r + 6 + j) (k := 6 + j) (x := .inr (.inr (2, (owF (A r) j).set 1 (.int v)))) hr (Nat.add_assoc _ _ _) (by omega) (by
    unfold rdC
    rw [if_neg (by omega), if_neg (by omega), if_neg (by omega), if_neg (by omega), if_neg (by omega), if_neg (by omega), Nat.add_sub_cancel_left]
    unfold owF
    have e : va_up (A r) 1 (va_up (A r 1) j v) 1 j = v := by rw [va_up_self, va_up_self]
    rw [e]
    rfl) (fun i hi hne => by
    unfold rdC rdF
    obtain rfl | rfl | rfl | rfl | rfl | rfl | h6 : i = 0 ∨ i = 1 ∨ i = 2 ∨ i = 3 ∨ i = 4 ∨ i = 5 ∨ 6 ≤ i := by omega
    · rfl
    · rfl
    · rfl
    · rfl
    · rfl
    · rfl
    · rw [if_neg (by omega), if_neg (by omega), if_neg (by omega), if_neg (by omega), if_neg (by omega), if_neg (by omega), if_neg (by omega), if_neg (by omega), if_neg (by omega), if_neg (by omega), if_neg (by omega), if_neg (by omega)]
      unfold owF
      have e : va_up (A r) 1 (va_up (A r 1) j v) 1 (i - 6) = A r 1 (i - 6) := by rw [va_up_self, va_up_ne _ _ (by omega)]
      rw [e]
      rfl)
  rw [up_id] at h
  exact h
theorem ms_ow2 (hr : r < 3) {j : Nat} (hj : j < 12) {v : Int32} : mset (N, H3 g (cc A T K B E l G) Qm) (rb r + 6 + j) (.inr (.inr (2, (owF (A r) j).set 2 (.int v)))) = (N, H3 g (cc (u3 A r 2 j v) T K B E l G) Qm) := by
  have h := ms_rd (g := g) (N := N) (A := A) (T := T) (K := K) (B := B) (E := E) (l := l) (G := G) (Qm := Qm) (R' := va_up (A r) 2 (va_up (A r 2) j v)) (f' := G r) (q := rb r + 6 + j) (k := 6 + j) (x := .inr (.inr (2, (owF (A r) j).set 2 (.int v)))) hr (Nat.add_assoc _ _ _) (by omega) (by
    unfold rdC
    rw [if_neg (by omega), if_neg (by omega), if_neg (by omega), if_neg (by omega), if_neg (by omega), if_neg (by omega), Nat.add_sub_cancel_left]
    unfold owF
    have e : va_up (A r) 2 (va_up (A r 2) j v) 2 j = v := by rw [va_up_self, va_up_self]
    rw [e]
    rfl) (fun i hi hne => by
    unfold rdC rdF
    obtain rfl | rfl | rfl | rfl | rfl | rfl | h6 : i = 0 ∨ i = 1 ∨ i = 2 ∨ i = 3 ∨ i = 4 ∨ i = 5 ∨ 6 ≤ i := by omega
    · rfl
    · rfl
    · rfl
    · rfl
    · rfl
    · rfl
    · rw [if_neg (by omega), if_neg (by omega), if_neg (by omega), if_neg (by omega), if_neg (by omega), if_neg (by omega), if_neg (by omega), if_neg (by omega), if_neg (by omega), if_neg (by omega), if_neg (by omega), if_neg (by omega)]
      unfold owF
      have e : va_up (A r) 2 (va_up (A r 2) j v) 2 (i - 6) = A r 2 (i - 6) := by rw [va_up_self, va_up_ne _ _ (by omega)]
      rw [e]
      rfl)
  rw [up_id] at h
  exact h
theorem ms_ow3 (hr : r < 3) {j : Nat} (hj : j < 12) {v : Int32} : mset (N, H3 g (cc A T K B E l G) Qm) (rb r + 6 + j) (.inr (.inr (2, (owF (A r) j).set 3 (.int v)))) = (N, H3 g (cc (u3 A r 3 j v) T K B E l G) Qm) := by
  have h := ms_rd (g := g) (N := N) (A := A) (T := T) (K := K) (B := B) (E := E) (l := l) (G := G) (Qm := Qm) (R' := va_up (A r) 3 (va_up (A r 3) j v)) (f' := G r) (q := rb r + 6 + j) (k := 6 + j) (x := .inr (.inr (2, (owF (A r) j).set 3 (.int v)))) hr (Nat.add_assoc _ _ _) (by omega) (by
    unfold rdC
    rw [if_neg (by omega), if_neg (by omega), if_neg (by omega), if_neg (by omega), if_neg (by omega), if_neg (by omega), Nat.add_sub_cancel_left]
    unfold owF
    have e : va_up (A r) 3 (va_up (A r 3) j v) 3 j = v := by rw [va_up_self, va_up_self]
    rw [e]
    rfl) (fun i hi hne => by
    unfold rdC rdF
    obtain rfl | rfl | rfl | rfl | rfl | rfl | h6 : i = 0 ∨ i = 1 ∨ i = 2 ∨ i = 3 ∨ i = 4 ∨ i = 5 ∨ 6 ≤ i := by omega
    · rfl
    · rfl
    · rfl
    · rfl
    · rfl
    · rfl
    · rw [if_neg (by omega), if_neg (by omega), if_neg (by omega), if_neg (by omega), if_neg (by omega), if_neg (by omega), if_neg (by omega), if_neg (by omega), if_neg (by omega), if_neg (by omega), if_neg (by omega), if_neg (by omega)]
      unfold owF
      have e : va_up (A r) 3 (va_up (A r 3) j v) 3 (i - 6) = A r 3 (i - 6) := by rw [va_up_self, va_up_ne _ _ (by omega)]
      rw [e]
      rfl)
  rw [up_id] at h
  exact h
theorem ms_ow4 (hr : r < 3) {j : Nat} (hj : j < 12) {v : Int32} : mset (N, H3 g (cc A T K B E l G) Qm) (rb r + 6 + j) (.inr (.inr (2, (owF (A r) j).set 4 (.int v)))) = (N, H3 g (cc (u3 A r 4 j v) T K B E l G) Qm) := by
  have h := ms_rd (g := g) (N := N) (A := A) (T := T) (K := K) (B := B) (E := E) (l := l) (G := G) (Qm := Qm) (R' := va_up (A r) 4 (va_up (A r 4) j v)) (f' := G r) (q := rb r + 6 + j) (k := 6 + j) (x := .inr (.inr (2, (owF (A r) j).set 4 (.int v)))) hr (Nat.add_assoc _ _ _) (by omega) (by
    unfold rdC
    rw [if_neg (by omega), if_neg (by omega), if_neg (by omega), if_neg (by omega), if_neg (by omega), if_neg (by omega), Nat.add_sub_cancel_left]
    unfold owF
    have e : va_up (A r) 4 (va_up (A r 4) j v) 4 j = v := by rw [va_up_self, va_up_self]
    rw [e]
    rfl) (fun i hi hne => by
    unfold rdC rdF
    obtain rfl | rfl | rfl | rfl | rfl | rfl | h6 : i = 0 ∨ i = 1 ∨ i = 2 ∨ i = 3 ∨ i = 4 ∨ i = 5 ∨ 6 ≤ i := by omega
    · rfl
    · rfl
    · rfl
    · rfl
    · rfl
    · rfl
    · rw [if_neg (by omega), if_neg (by omega), if_neg (by omega), if_neg (by omega), if_neg (by omega), if_neg (by omega), if_neg (by omega), if_neg (by omega), if_neg (by omega), if_neg (by omega), if_neg (by omega), if_neg (by omega)]
      unfold owF
      have e : va_up (A r) 4 (va_up (A r 4) j v) 4 (i - 6) = A r 4 (i - 6) := by rw [va_up_self, va_up_ne _ _ (by omega)]
      rw [e]
      rfl)
  rw [up_id] at h
  exact h
theorem ms_ow5 (hr : r < 3) {j : Nat} (hj : j < 12) {v : Int32} : mset (N, H3 g (cc A T K B E l G) Qm) (rb r + 6 + j) (.inr (.inr (2, (owF (A r) j).set 5 (.int v)))) = (N, H3 g (cc (u3 A r 5 j v) T K B E l G) Qm) := by
  have h := ms_rd (g := g) (N := N) (A := A) (T := T) (K := K) (B := B) (E := E) (l := l) (G := G) (Qm := Qm) (R' := va_up (A r) 5 (va_up (A r 5) j v)) (f' := G r) (q := rb r + 6 + j) (k := 6 + j) (x := .inr (.inr (2, (owF (A r) j).set 5 (.int v)))) hr (Nat.add_assoc _ _ _) (by omega) (by
    unfold rdC
    rw [if_neg (by omega), if_neg (by omega), if_neg (by omega), if_neg (by omega), if_neg (by omega), if_neg (by omega), Nat.add_sub_cancel_left]
    unfold owF
    have e : va_up (A r) 5 (va_up (A r 5) j v) 5 j = v := by rw [va_up_self, va_up_self]
    rw [e]
    rfl) (fun i hi hne => by
    unfold rdC rdF
    obtain rfl | rfl | rfl | rfl | rfl | rfl | h6 : i = 0 ∨ i = 1 ∨ i = 2 ∨ i = 3 ∨ i = 4 ∨ i = 5 ∨ 6 ≤ i := by omega
    · rfl
    · rfl
    · rfl
    · rfl
    · rfl
    · rfl
    · rw [if_neg (by omega), if_neg (by omega), if_neg (by omega), if_neg (by omega), if_neg (by omega), if_neg (by omega), if_neg (by omega), if_neg (by omega), if_neg (by omega), if_neg (by omega), if_neg (by omega), if_neg (by omega)]
      unfold owF
      have e : va_up (A r) 5 (va_up (A r 5) j v) 5 (i - 6) = A r 5 (i - 6) := by rw [va_up_self, va_up_ne _ _ (by omega)]
      rw [e]
      rfl)
  rw [up_id] at h
  exact h
theorem ms_ow6 (hr : r < 3) {j : Nat} (hj : j < 12) {v : Int32} : mset (N, H3 g (cc A T K B E l G) Qm) (rb r + 6 + j) (.inr (.inr (2, (owF (A r) j).set 6 (.int v)))) = (N, H3 g (cc (u3 A r 6 j v) T K B E l G) Qm) := by
  have h := ms_rd (g := g) (N := N) (A := A) (T := T) (K := K) (B := B) (E := E) (l := l) (G := G) (Qm := Qm) (R' := va_up (A r) 6 (va_up (A r 6) j v)) (f' := G r) (q := rb r + 6 + j) (k := 6 + j) (x := .inr (.inr (2, (owF (A r) j).set 6 (.int v)))) hr (Nat.add_assoc _ _ _) (by omega) (by
    unfold rdC
    rw [if_neg (by omega), if_neg (by omega), if_neg (by omega), if_neg (by omega), if_neg (by omega), if_neg (by omega), Nat.add_sub_cancel_left]
    unfold owF
    have e : va_up (A r) 6 (va_up (A r 6) j v) 6 j = v := by rw [va_up_self, va_up_self]
    rw [e]
    rfl) (fun i hi hne => by
    unfold rdC rdF
    obtain rfl | rfl | rfl | rfl | rfl | rfl | h6 : i = 0 ∨ i = 1 ∨ i = 2 ∨ i = 3 ∨ i = 4 ∨ i = 5 ∨ 6 ≤ i := by omega
    · rfl
    · rfl
    · rfl
    · rfl
    · rfl
    · rfl
    · rw [if_neg (by omega), if_neg (by omega), if_neg (by omega), if_neg (by omega), if_neg (by omega), if_neg (by omega), if_neg (by omega), if_neg (by omega), if_neg (by omega), if_neg (by omega), if_neg (by omega), if_neg (by omega)]
      unfold owF
      have e : va_up (A r) 6 (va_up (A r 6) j v) 6 (i - 6) = A r 6 (i - 6) := by rw [va_up_self, va_up_ne _ _ (by omega)]
      rw [e]
      rfl)
  rw [up_id] at h
  exact h
theorem ms_ow7 (hr : r < 3) {j : Nat} (hj : j < 12) {v : Int32} : mset (N, H3 g (cc A T K B E l G) Qm) (rb r + 6 + j) (.inr (.inr (2, (owF (A r) j).set 7 (.int v)))) = (N, H3 g (cc (u3 A r 7 j v) T K B E l G) Qm) := by
  have h := ms_rd (g := g) (N := N) (A := A) (T := T) (K := K) (B := B) (E := E) (l := l) (G := G) (Qm := Qm) (R' := va_up (A r) 7 (va_up (A r 7) j v)) (f' := G r) (q := rb r + 6 + j) (k := 6 + j) (x := .inr (.inr (2, (owF (A r) j).set 7 (.int v)))) hr (Nat.add_assoc _ _ _) (by omega) (by
    unfold rdC
    rw [if_neg (by omega), if_neg (by omega), if_neg (by omega), if_neg (by omega), if_neg (by omega), if_neg (by omega), Nat.add_sub_cancel_left]
    unfold owF
    have e : va_up (A r) 7 (va_up (A r 7) j v) 7 j = v := by rw [va_up_self, va_up_self]
    rw [e]
    rfl) (fun i hi hne => by
    unfold rdC rdF
    obtain rfl | rfl | rfl | rfl | rfl | rfl | h6 : i = 0 ∨ i = 1 ∨ i = 2 ∨ i = 3 ∨ i = 4 ∨ i = 5 ∨ 6 ≤ i := by omega
    · rfl
    · rfl
    · rfl
    · rfl
    · rfl
    · rfl
    · rw [if_neg (by omega), if_neg (by omega), if_neg (by omega), if_neg (by omega), if_neg (by omega), if_neg (by omega), if_neg (by omega), if_neg (by omega), if_neg (by omega), if_neg (by omega), if_neg (by omega), if_neg (by omega)]
      unfold owF
      have e : va_up (A r) 7 (va_up (A r 7) j v) 7 (i - 6) = A r 7 (i - 6) := by rw [va_up_self, va_up_ne _ _ (by omega)]
      rw [e]
      rfl)
  rw [up_id] at h
  exact h
theorem ms_ow8 (hr : r < 3) {j : Nat} (hj : j < 12) {v : Int32} : mset (N, H3 g (cc A T K B E l G) Qm) (rb r + 6 + j) (.inr (.inr (2, (owF (A r) j).set 8 (.int v)))) = (N, H3 g (cc (u3 A r 8 j v) T K B E l G) Qm) := by
  have h := ms_rd (g := g) (N := N) (A := A) (T := T) (K := K) (B := B) (E := E) (l := l) (G := G) (Qm := Qm) (R' := va_up (A r) 8 (va_up (A r 8) j v)) (f' := G r) (q := rb r + 6 + j) (k := 6 + j) (x := .inr (.inr (2, (owF (A r) j).set 8 (.int v)))) hr (Nat.add_assoc _ _ _) (by omega) (by
    unfold rdC
    rw [if_neg (by omega), if_neg (by omega), if_neg (by omega), if_neg (by omega), if_neg (by omega), if_neg (by omega), Nat.add_sub_cancel_left]
    unfold owF
    have e : va_up (A r) 8 (va_up (A r 8) j v) 8 j = v := by rw [va_up_self, va_up_self]
    rw [e]
    rfl) (fun i hi hne => by
    unfold rdC rdF
    obtain rfl | rfl | rfl | rfl | rfl | rfl | h6 : i = 0 ∨ i = 1 ∨ i = 2 ∨ i = 3 ∨ i = 4 ∨ i = 5 ∨ 6 ≤ i := by omega
    · rfl
    · rfl
    · rfl
    · rfl
    · rfl
    · rfl
    · rw [if_neg (by omega), if_neg (by omega), if_neg (by omega), if_neg (by omega), if_neg (by omega), if_neg (by omega), if_neg (by omega), if_neg (by omega), if_neg (by omega), if_neg (by omega), if_neg (by omega), if_neg (by omega)]
      unfold owF
      have e : va_up (A r) 8 (va_up (A r 8) j v) 8 (i - 6) = A r 8 (i - 6) := by rw [va_up_self, va_up_ne _ _ (by omega)]
      rw [e]
      rfl)
  rw [up_id] at h
  exact h
theorem ms_lw {t : Nat} {T' : tR} {f' : Nat → Int32} (ht : t < 6) {q k : Nat} {x : mC} (hq : q = lb t + k) (hk : k < 4) (h1 : lwC T' f' t k = x) (h2 : ∀ i, i < 4 → i ≠ k → lwC T' f' t i = lwC (T t) (G (3 + t)) t i) : mset (N, H3 g (cc A T K B E l G) Qm) q x = (N, H3 g (cc A (va_up T t T') K B E l (va_up G (3 + t) f')) Qm) := by
  subst hq
  have hb : lb t = 60 + 4 * t := rfl
  refine ms_c (by omega) ?_ ?_
  · have := cc_lw (g := g) (A := A) (T := va_up T t T') (K := K) (B := B) (E := E) (l := l) (G := va_up G (3 + t) f') (Qm := Qm) ht hk
    rw [h3_lt (by omega), va_up_self, va_up_self] at this
    rw [this, h1]
  · intro i hi hne
    by_cases h0 : i = 0
    · subst h0; rfl
    · by_cases h55 : i < 55
      · unfold cc
        rw [if_neg h0, if_neg h0, if_pos h55, if_pos h55, va_up_ne _ _ (by omega)]
      · unfold cc
        rw [if_neg h0, if_neg h0, if_neg h55, if_neg h55]
        by_cases h5 : i < 60
        · obtain rfl | rfl | rfl | rfl | rfl : i = 55 ∨ i = 56 ∨ i = 57 ∨ i = 58 ∨ i = 59 := by omega
          all_goals rfl
        · have n5 : ¬ i = 55 := by omega
          have n6 : ¬ i = 56 := by omega
          have n7 : ¬ i = 57 := by omega
          have n8 : ¬ i = 58 := by omega
          have n9 : ¬ i = 59 := by omega
          simp only [n5, n6, n7, n8, n9, if_false]
          by_cases h84 : i < 84
          · simp only [h84, if_true]
            by_cases hit : (i - 60) / 4 = t
            · rw [hit, va_up_self, va_up_self]
              exact h2 _ (Nat.mod_lt _ (by decide)) (by omega)
            · rw [va_up_ne _ _ hit, va_up_ne _ _ (by omega)]
          · simp only [h84, if_false]
theorem ms_lsize {t : Nat} (ht : t < 6) {v : Int32} : mset (N, H3 g (cc A T K B E l G) Qm) (lb t) (.inr (.inr (0, (lwF (T t) t).set 3 (.int v)))) = (N, H3 g (cc A (u3 T t 2 0 v) K B E l G) Qm) := by
  have h := ms_lw (g := g) (N := N) (A := A) (T := T) (K := K) (B := B) (E := E) (l := l) (G := G) (Qm := Qm) (T' := va_up (T t) 2 (va_up (T t 2) 0 v)) (f' := G (3 + t)) (k := 0) (x := .inr (.inr (0, (lwF (T t) t).set 3 (.int v)))) ht rfl (by decide) rfl (fun i hi hne => by
    unfold lwC
    rw [if_neg hne, if_neg hne]
    rfl)
  rw [up_id] at h
  exact h
theorem ms_steps {t : Nat} (ht : t < 6) {f : Nat → Int32} : mset (N, H3 g (cc A T K B E l G) Qm) (lb t + 1) (.inl (0, 160, f)) = (N, H3 g (cc A (va_up T t (va_up (T t) 0 f)) K B E l G) Qm) := by
  have h := ms_lw (g := g) (N := N) (A := A) (T := T) (K := K) (B := B) (E := E) (l := l) (G := G) (Qm := Qm) (T' := va_up (T t) 0 f) (f' := G (3 + t)) (k := 1) (x := .inl (0, 160, f)) ht rfl (by decide) rfl (fun i hi hne => by
    unfold lwC lwF
    obtain rfl | rfl | rfl : i = 0 ∨ i = 2 ∨ i = 3 := by omega
    · rfl
    · rfl
    · rfl)
  rw [up_id] at h
  exact h
theorem ms_starts {t : Nat} (ht : t < 6) {f : Nat → Int32} : mset (N, H3 g (cc A T K B E l G) Qm) (lb t + 2) (.inl (0, 4, f)) = (N, H3 g (cc A (va_up T t (va_up (T t) 1 f)) K B E l G) Qm) := by
  have h := ms_lw (g := g) (N := N) (A := A) (T := T) (K := K) (B := B) (E := E) (l := l) (G := G) (Qm := Qm) (T' := va_up (T t) 1 f) (f' := G (3 + t)) (k := 2) (x := .inl (0, 4, f)) ht rfl (by decide) rfl (fun i hi hne => by
    unfold lwC lwF
    obtain rfl | rfl | rfl : i = 0 ∨ i = 1 ∨ i = 3 := by omega
    · rfl
    · rfl
    · rfl)
  rw [up_id] at h
  exact h
theorem ms_stack {t : Nat} (ht : t < 6) {f : Nat → Int32} : mset (N, H3 g (cc A T K B E l G) Qm) (lb t + 3) (.inl (0, 160, f)) = (N, H3 g (cc A T K B E l (va_up G (3 + t) f)) Qm) := by
  have h := ms_lw (g := g) (N := N) (A := A) (T := T) (K := K) (B := B) (E := E) (l := l) (G := G) (Qm := Qm) (T' := T t) (f' := f) (k := 3) (x := .inl (0, 160, f)) ht rfl (by decide) rfl (fun i hi hne => by
    unfold lwC
    obtain rfl | rfl | rfl : i = 0 ∨ i = 1 ∨ i = 2 := by omega
    · rfl
    · rfl
    · rfl)
  rw [up_id] at h
  exact h
theorem ms_sh {s : Nat} {K' : tR} (hs : s < 4) {q k : Nat} {x : mC} (hq : q = sb s + k) (hk : k < 2) (h1 : shC K' s k = x) (h2 : ∀ i, i < 2 → i ≠ k → shC K' s i = shC (K s) s i) : mset (N, H3 g (cc A T K B E l G) Qm) q x = (N, H3 g (cc A T (va_up K s K') B E l G) Qm) := by
  subst hq
  have hb : sb s = 84 + 2 * s := rfl
  refine ms_c (by omega) ?_ ?_
  · have := cc_sh (g := g) (A := A) (T := T) (K := va_up K s K') (B := B) (E := E) (l := l) (G := G) (Qm := Qm) hs hk
    rw [h3_lt (by omega), va_up_self] at this
    rw [this, h1]
  · intro i hi hne
    by_cases h84 : i < 84
    · unfold cc
      by_cases h0 : i = 0
      · subst h0; rfl
      · rw [if_neg h0, if_neg h0]
        by_cases h55 : i < 55
        · rw [if_pos h55, if_pos h55]
        · rw [if_neg h55, if_neg h55]
          by_cases h5 : i < 60
          · obtain rfl | rfl | rfl | rfl | rfl : i = 55 ∨ i = 56 ∨ i = 57 ∨ i = 58 ∨ i = 59 := by omega
            all_goals rfl
          · have n5 : ¬ i = 55 := by omega
            have n6 : ¬ i = 56 := by omega
            have n7 : ¬ i = 57 := by omega
            have n8 : ¬ i = 58 := by omega
            have n9 : ¬ i = 59 := by omega
            simp only [n5, n6, n7, n8, n9, h84, if_false, if_true]
    · unfold cc
      have n0 : ¬ i = 0 := by omega
      have n4 : ¬ i < 55 := by omega
      have n5 : ¬ i = 55 := by omega
      have n6 : ¬ i = 56 := by omega
      have n7 : ¬ i = 57 := by omega
      have n8 : ¬ i = 58 := by omega
      have n9 : ¬ i = 59 := by omega
      simp only [n0, n4, n5, n6, n7, n8, n9, h84, if_false]
      by_cases his : (i - 84) / 2 = s
      · rw [his, va_up_self]
        exact h2 _ (Nat.mod_lt _ (by decide)) (by omega)
      · rw [va_up_ne _ _ his]
theorem ms_row {s : Nat} (hs : s < 4) {f : Nat → Int32} : mset (N, H3 g (cc A T K B E l G) Qm) (sb s + 1) (.inl (0, 40, f)) = (N, H3 g (cc A T (va_up K s (va_up (K s) 0 f)) B E l G) Qm) := by
  refine ms_sh (K' := va_up (K s) 0 f) hs rfl (by decide) rfl (fun i hi hne => ?_)
  obtain rfl : i = 0 := by omega
  rfl
theorem ms_sh0 {s : Nat} (hs : s < 4) {v : Int32} : mset (N, H3 g (cc A T K B E l G) Qm) (sb s) (.inr (.inr (5, (shF (K s) s).set 0 (.int v)))) = (N, H3 g (cc A T (u3 K s 1 0 v) B E l G) Qm) := by
  refine ms_sh (K' := va_up (K s) 1 (va_up (K s 1) 0 v)) (k := 0) hs rfl (by decide) rfl (fun i hi hne => ?_)
  obtain rfl : i = 1 := by omega
  rfl
theorem ms_sh1 {s : Nat} (hs : s < 4) {v : Int32} : mset (N, H3 g (cc A T K B E l G) Qm) (sb s) (.inr (.inr (5, (shF (K s) s).set 1 (.int v)))) = (N, H3 g (cc A T (u3 K s 1 1 v) B E l G) Qm) := by
  refine ms_sh (K' := va_up (K s) 1 (va_up (K s 1) 1 v)) (k := 0) hs rfl (by decide) rfl (fun i hi hne => ?_)
  obtain rfl : i = 1 := by omega
  rfl
theorem ms_one {P' : Nat → mC} {q : Nat} {x : mC} (hq : q = 0 ∨ q = 55 ∨ q = 56 ∨ q = 59) {B' : tR} {E' : Nat → Int32} {l' : Int64} (h1 : cc A T K B' E' l' G q = x) (h0 : q ≠ 0 → E' = E) (h55 : q ≠ 55 → rrF B' = rrF B) (h56 : q ≠ 56 → B' 0 = B 0) (h59 : q ≠ 59 → l' = l) : mset (N, H3 g (cc A T K B E l G) Qm) q x = (N, H3 g (cc A T K B' E' l' G) Qm) := by
  refine ms_c (by omega) h1 fun i hi hne => ?_
  unfold cc
  by_cases e0 : i = 0
  · rw [if_pos e0, if_pos e0, h0 (by omega)]
  · rw [if_neg e0, if_neg e0]
    by_cases e55 : i = 55
    · subst e55
      show (Sum.inr (Sum.inr (3, rrF B')) : mC) = Sum.inr (Sum.inr (3, rrF B))
      rw [h55 (by omega)]
    · by_cases e56 : i = 56
      · subst e56
        show (Sum.inl (0, 160, B' 0) : mC) = Sum.inl (0, 160, B 0)
        rw [h56 (by omega)]
      · rw [if_neg e55, if_neg e55, if_neg e56, if_neg e56]
        by_cases e59 : i = 59
        · subst e59
          rw [h59 (by omega)]
        · rw [if_neg e59, if_neg e59]
def u2 (B : tR) (i j : Nat) (v : Int32) : tR := va_up B i (va_up (B i) j v)
theorem u2_ap (B : tR) (i j i' j' : Nat) (v : Int32) : u2 B i j v i' j' = if i' = i ∧ j' = j then v else B i' j' := by
  unfold u2 va_up
  by_cases h2 : i' = i
  · subst h2
    by_cases h3 : j' = j
    · simp [h3]
    · simp [h3]
  · simp [h2]
theorem ms_rt3 {v : Int32} : mset (N, H3 g (cc A T K B E l G) Qm) 0 (.inr (.inr (6, (rtF E).set 3 (.int v)))) = (N, H3 g (cc A T K B (va_up E 0 v) l G) Qm) := ms_one (P' := fun _ => mdead) (Or.inl rfl) rfl (fun h => absurd rfl h) (fun _ => rfl) (fun _ => rfl) (fun _ => rfl)
theorem ms_rt6 {v : Int32} : mset (N, H3 g (cc A T K B E l G) Qm) 0 (.inr (.inr (6, (rtF E).set 6 (.int v)))) = (N, H3 g (cc A T K B (va_up E 1 v) l G) Qm) := ms_one (P' := fun _ => mdead) (Or.inl rfl) rfl (fun h => absurd rfl h) (fun _ => rfl) (fun _ => rfl) (fun _ => rfl)
theorem ms_lots {v : Int64} : mset (N, H3 g (cc A T K B E l G) Qm) 59 (.inr (.inr (1, [.long v]))) = (N, H3 g (cc A T K B E v G) Qm) := ms_one (P' := fun _ => mdead) (Or.inr (Or.inr (Or.inr rfl))) rfl (fun _ => rfl) (fun _ => rfl) (fun _ => rfl) (fun h => absurd rfl h)
theorem ms_tape {f : Nat → Int32} : mset (N, H3 g (cc A T K B E l G) Qm) 56 (.inl (0, 160, f)) = (N, H3 g (cc A T K (va_up B 0 f) E l G) Qm) := ms_one (P' := fun _ => mdead) (Or.inr (Or.inr (Or.inl rfl))) rfl (fun _ => rfl) (fun _ => rfl) (fun h => absurd rfl h) (fun _ => rfl)
theorem ms_rr1 {v : Int32} : mset (N, H3 g (cc A T K B E l G) Qm) 55 (.inr (.inr (3, (rrF B).set 1 (.int v)))) = (N, H3 g (cc A T K (u2 B 1 0 v) E l G) Qm) := ms_one (P' := fun _ => mdead) (Or.inr (Or.inl rfl)) rfl (fun _ => rfl) (fun h => absurd rfl h) (fun _ => rfl) (fun _ => rfl)
theorem ms_rr2 {v : Int32} : mset (N, H3 g (cc A T K B E l G) Qm) 55 (.inr (.inr (3, (rrF B).set 2 (.int v)))) = (N, H3 g (cc A T K (u2 B 1 1 v) E l G) Qm) := ms_one (P' := fun _ => mdead) (Or.inr (Or.inl rfl)) rfl (fun _ => rfl) (fun h => absurd rfl h) (fun _ => rfl) (fun _ => rfl)
theorem ms_rr3 {v : Int32} : mset (N, H3 g (cc A T K B E l G) Qm) 55 (.inr (.inr (3, (rrF B).set 3 (.int v)))) = (N, H3 g (cc A T K (u2 B 1 2 v) E l G) Qm) := ms_one (P' := fun _ => mdead) (Or.inr (Or.inl rfl)) rfl (fun _ => rfl) (fun h => absurd rfl h) (fun _ => rfl) (fun _ => rfl)
theorem ms_rr4 {v : Int32} : mset (N, H3 g (cc A T K B E l G) Qm) 55 (.inr (.inr (3, (rrF B).set 4 (.int v)))) = (N, H3 g (cc A T K (u2 B 1 3 v) E l G) Qm) := ms_one (P' := fun _ => mdead) (Or.inr (Or.inl rfl)) rfl (fun _ => rfl) (fun h => absurd rfl h) (fun _ => rfl) (fun _ => rfl)
theorem ms_rr5 {v : Int32} : mset (N, H3 g (cc A T K B E l G) Qm) 55 (.inr (.inr (3, (rrF B).set 5 (.int v)))) = (N, H3 g (cc A T K (u2 B 1 4 v) E l G) Qm) := ms_one (P' := fun _ => mdead) (Or.inr (Or.inl rfl)) rfl (fun _ => rfl) (fun h => absurd rfl h) (fun _ => rfl) (fun _ => rfl)
theorem lref_nI {t : Nat} (ht : t < 6) : lref (nI t) = .ref (lb t) := by
  obtain rfl | rfl | rfl | rfl | rfl | rfl : t = 0 ∨ t = 1 ∨ t = 2 ∨ t = 3 ∨ t = 4 ∨ t = 5 := by omega
  all_goals rfl
theorem ms_rr6 {t : Nat} (ht : t < 6) : mset (N, H3 g (cc A T K B E l G) Qm) 55 (.inr (.inr (3, (rrF B).set 6 (.ref (lb t))))) = (N, H3 g (cc A T K (u2 B 1 5 (nI t)) E l G) Qm) := ms_one (P' := fun _ => mdead) (Or.inr (Or.inl rfl)) (by rw [← lref_nI ht]; rfl) (fun _ => rfl) (fun h => absurd rfl h) (fun _ => rfl) (fun _ => rfl)
-- the model's
theorem hm_obj : H3 g P (mm Y S) 92 = .inr (.inr (7, mdF S)) := rfl
theorem mm_set {q a : Nat} {f : Nat → Int32} (hq : q = 93 + a) (ha : a < 24) : mset (N, H3 g P (mm Y S)) q (.inl (0, mln a, f)) = (N, H3 g P (mm (va_up Y a f) S)) := by
  subst hq
  refine ms_eq fun k => ?_
  by_cases e : k = 93 + a
  · subst e
    rw [va_up_self]
    unfold H3 mm
    rw [if_neg (by omega), if_pos (by omega), if_neg (by omega), Nat.add_sub_cancel_left, va_up_self]
  · rw [va_up_ne _ _ e]
    unfold H3 mm
    by_cases h1 : k < 92
    · rw [if_pos h1, if_pos h1]
    · rw [if_neg h1, if_neg h1]
      by_cases h2 : k < 117
      · rw [if_pos h2, if_pos h2]
        by_cases h3 : k = 92
        · rw [if_pos h3, if_pos h3]
        · rw [if_neg h3, if_neg h3, va_up_ne _ _ (by omega)]
      · rw [if_neg h2, if_neg h2]
theorem mm_obj {S' : Nat → Int32} {fs : List Value} (h : mdF S' = fs) : mset (N, H3 g P (mm Y S)) 92 (.inr (.inr (7, fs))) = (N, H3 g P (mm Y S')) := by
  subst h
  refine ms_eq fun k => ?_
  by_cases e : k = 92
  · subst e; rw [va_up_self]; rfl
  · rw [va_up_ne _ _ e]
    unfold H3 mm
    rw [if_neg e, if_neg e]
theorem mm_s0 {v : Int32} : mset (N, H3 g P (mm Y S)) 92 (.inr (.inr (7, (mdF S).set 0 (.int v)))) = (N, H3 g P (mm Y (va_up S 0 v))) := mm_obj rfl
theorem mm_s5 {v : Int32} : mset (N, H3 g P (mm Y S)) 92 (.inr (.inr (7, (mdF S).set 5 (.int v)))) = (N, H3 g P (mm Y (va_up S 5 v))) := mm_obj rfl
theorem mm_s8 {v : Int32} : mset (N, H3 g P (mm Y S)) 92 (.inr (.inr (7, (mdF S).set 8 (.int v)))) = (N, H3 g P (mm Y (va_up S 8 v))) := mm_obj rfl
theorem mm_s9 {v : Int32} : mset (N, H3 g P (mm Y S)) 92 (.inr (.inr (7, (mdF S).set 9 (.int v)))) = (N, H3 g P (mm Y (va_up S 9 v))) := mm_obj rfl
theorem mm_s11 {v : Int32} : mset (N, H3 g P (mm Y S)) 92 (.inr (.inr (7, (mdF S).set 11 (.int v)))) = (N, H3 g P (mm Y (va_up S 11 v))) := mm_obj rfl
theorem mm_s14 {v : Int32} : mset (N, H3 g P (mm Y S)) 92 (.inr (.inr (7, (mdF S).set 14 (.int v)))) = (N, H3 g P (mm Y (va_up S 14 v))) := mm_obj rfl
theorem mm_s15 {v : Int32} : mset (N, H3 g P (mm Y S)) 92 (.inr (.inr (7, (mdF S).set 15 (.int v)))) = (N, H3 g P (mm Y (va_up S 15 v))) := mm_obj rfl
theorem mm_s16 {v : Int32} : mset (N, H3 g P (mm Y S)) 92 (.inr (.inr (7, (mdF S).set 16 (.int v)))) = (N, H3 g P (mm Y (va_up S 16 v))) := mm_obj rfl
theorem mm_s23 {v : Int32} : mset (N, H3 g P (mm Y S)) 92 (.inr (.inr (7, (mdF S).set 23 (.int v)))) = (N, H3 g P (mm Y (va_up S 23 v))) := mm_obj rfl
theorem mm_s24 {v : Int32} : mset (N, H3 g P (mm Y S)) 92 (.inr (.inr (7, (mdF S).set 24 (.int v)))) = (N, H3 g P (mm Y (va_up S 24 v))) := mm_obj rfl
theorem mm_s25 {v : Int32} : mset (N, H3 g P (mm Y S)) 92 (.inr (.inr (7, (mdF S).set 25 (.int v)))) = (N, H3 g P (mm Y (va_up S 25 v))) := mm_obj rfl
theorem mm_s26 {v : Int32} : mset (N, H3 g P (mm Y S)) 92 (.inr (.inr (7, (mdF S).set 26 (.int v)))) = (N, H3 g P (mm Y (va_up S 26 v))) := mm_obj rfl
theorem mm_s29 {v : Int32} : mset (N, H3 g P (mm Y S)) 92 (.inr (.inr (7, (mdF S).set 29 (.int v)))) = (N, H3 g P (mm Y (va_up S 29 v))) := mm_obj rfl
theorem mm_s30 {v : Int32} : mset (N, H3 g P (mm Y S)) 92 (.inr (.inr (7, (mdF S).set 30 (.int v)))) = (N, H3 g P (mm Y (va_up S 30 v))) := mm_obj rfl
theorem mm_s31 {v : Int32} : mset (N, H3 g P (mm Y S)) 92 (.inr (.inr (7, (mdF S).set 31 (.int v)))) = (N, H3 g P (mm Y (va_up S 31 v))) := mm_obj rfl
theorem mm_s34 {v : Int32} : mset (N, H3 g P (mm Y S)) 92 (.inr (.inr (7, (mdF S).set 34 (.int v)))) = (N, H3 g P (mm Y (va_up S 34 v))) := mm_obj rfl
theorem mm_s38 {v : Int32} : mset (N, H3 g P (mm Y S)) 92 (.inr (.inr (7, (mdF S).set 38 (.int v)))) = (N, H3 g P (mm Y (va_up S 38 v))) := mm_obj rfl
theorem mm_s40 {v : Int32} : mset (N, H3 g P (mm Y S)) 92 (.inr (.inr (7, (mdF S).set 40 (.int v)))) = (N, H3 g P (mm Y (va_up S 40 v))) := mm_obj rfl
end HPL
