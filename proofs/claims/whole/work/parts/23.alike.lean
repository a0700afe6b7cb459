/-! ROADS ALIKE ON THE CELLS IN USE; HOURS IN THOUGHT (wip/whole/gen23.py) -/
def us (n a b : Nat) : Prop := (a ≤ 8 ∧ b < n) ∨ (9 ≤ a ∧ a ≤ 12 ∧ b < 6)
/-- two roads with n owners, alike on the cells in use -/
def EQ (n : Nat) (R R' : tR) : Prop := ∀ a b, us n a b → R a b = R' a b
theorem EQ.refl {n : Nat} {R : tR} : EQ n R R := fun _ _ _ => rfl
theorem EQ.symm {n : Nat} {R R' : tR} (h : EQ n R R') : EQ n R' R := fun a b u => (h a b u).symm
theorem EQ.trans {n : Nat} {R R' R2 : tR} (h : EQ n R R') (k : EQ n R' R2) : EQ n R R2 := fun a b u => (h a b u).trans (k a b u)
theorem EQ.lo {n : Nat} {R R' : tR} (h : EQ n R R') {a b : Nat} (ha : a ≤ 8) (hb : b < n) : R a b = R' a b := h a b (Or.inl ⟨ha, hb⟩)
theorem EQ.hi {n : Nat} {R R' : tR} (h : EQ n R R') {a b : Nat} (ha : 9 ≤ a) (ha2 : a ≤ 12) (hb : b < 6) : R a b = R' a b := h a b (Or.inr ⟨ha, ha2, hb⟩)
section
variable {n : Nat} {A A' : Nat → tR} {r r' : Nat} {Lr : tR} {z : Nat → Nat}
theorem u3_eq (h : EQ n (A r) (A' r')) {i j : Nat} {v v' : Int32} (hv : v = v') : EQ n (u3 A r i j v r) (u3 A' r' i j v' r') := by
  intro a b u
  rw [u3_ap, u3_ap]
  by_cases e : a = i ∧ b = j
  · rw [if_pos ⟨rfl, e⟩, if_pos ⟨rfl, e⟩, hv]
  · rw [if_neg (fun q => e q.2), if_neg (fun q => e q.2)]
    exact h a b u
theorem u3_ne (A : Nat → tR) {r r2 : Nat} (hr : ¬ r2 = r) (i j : Nat) (v : Int32) : u3 A r i j v r2 = A r2 := by
  funext a b
  rw [u3_ap, if_neg (fun q => hr q.1)]
theorem sq_eq (h : EQ n (A r) (A' r')) {p : Nat} {ga mo hp wl : Int32} : sq (A r) Lr z p ga mo hp wl = sq (A' r') Lr z p ga mo hp wl := by
  unfold sq
  rw [h.hi (a := 12) (b := 2) (by decide) (by decide) (by decide), h.hi (a := 12) (b := 1) (by decide) (by decide) (by decide)]
theorem sfA_eq {f : Int32} : ∀ i, i ≤ 6 → EQ n (A r) (A' r') → EQ n (sfA A r f i r) (sfA A' r' f i r')
  | 0, _, h => h
  | i + 1, hi, h => by
    have h1 := sfA_eq (f := f) i (by omega) h
    simp only [sfA]
    exact u3_eq h1 (by rw [h1.hi (a := 9) (b := i) (by decide) (by decide) (by omega)])
theorem sfA_ne {f : Int32} {r2 : Nat} (hr : ¬ r2 = r) : ∀ i, sfA A r f i r2 = A r2
  | 0 => rfl
  | i + 1 => by rw [sfA, u3_ne _ hr, sfA_ne hr i]
theorem snA_eq (h : EQ n (A r) (A' r')) : EQ n (snA A r Lr z r) (snA A' r' Lr z r') := by
  unfold snA
  rw [sq_eq h]
  exact sfA_eq 6 (Nat.le_refl _) h
theorem plS_eq (hn12 : n ≤ 12) {s : Int32} {p : Nat} (hp : p < 6) {q q' : (Nat → tR) × Int32} (h : EQ n (q.1 r) (q'.1 r')) (hc : q.2 = q'.2) (hn : q.1 r 12 0 = nI n) : EQ n ((plS Lr z r s p q).1 r) ((plS Lr z r' s p q').1 r') ∧ (plS Lr z r s p q).2 = (plS Lr z r' s p q').2 := by
  have e9 := h.hi (a := 9) (b := p) (by decide) (by decide) hp
  have h1 : EQ n (u3 q.1 r 9 p 0 r) (u3 q'.1 r' 9 p 0 r') := u3_eq h rfl
  have hn1 : u3 q.1 r 9 p 0 r 12 0 = nI n := by rw [u3_ap, if_neg (by omega), hn]
  have hn2 : u3 q'.1 r' 9 p 0 r' 12 0 = nI n := by rw [← h1.hi (a := 12) (b := 0) (by decide) (by decide) (by decide), hn1]
  have e5 := h1.hi (a := 12) (b := 5) (by decide) (by decide) (by decide)
  by_cases hv : 0 ≤ 2 * nI p + s ∧ 2 * nI p + s < nI n
  · obtain ⟨j, hj, ej⟩ := own_ix hv hn12
    have e6 := h1.lo (a := 6) (b := j) (by decide) hj
    by_cases h6 : u3 q.1 r 9 p 0 r 6 j = 1
    · rw [plS_lift (by rw [hn1]; exact hv) ej (by omega) h6, plS_lift (q := q') (by rw [hn2]; exact hv) ej (by omega) (by rw [← e6]; exact h6)]
      dsimp only
      rw [e9, hc, e5, h1.lo (a := 1) (b := j) (by decide) hj, h1.lo (a := 3) (b := j) (by decide) hj, sq_eq h1]
      exact ⟨u3_eq h1 rfl, rfl⟩
    · rw [plS_wall (by rw [hn1]; exact hv) ej (by omega) h6, plS_wall (q := q') (by rw [hn2]; exact hv) ej (by omega) (by rw [← e6]; exact h6)]
      dsimp only
      rw [e9, hc, e5, h1.lo (a := 2) (b := j) (by decide) hj, h1.lo (a := 4) (b := j) (by decide) hj]
      exact ⟨u3_eq (u3_eq h1 rfl) rfl, rfl⟩
  · rw [plS_out (by rw [hn1]; exact hv), plS_out (q := q') (by rw [hn2]; exact hv), e9, hc, e5]
    exact ⟨u3_eq h1 rfl, rfl⟩
theorem plS_ne {s : Int32} {p : Nat} {q : (Nat → tR) × Int32} {r2 : Nat} (hr : ¬ r2 = r) : (plS Lr z r s p q).1 r2 = q.1 r2 := by
  unfold plS
  dsimp only
  split
  · split
    · show u3 (u3 _ _ _ _ _) _ _ _ _ _ = _
      rw [u3_ne _ hr, u3_ne _ hr]
    · show u3 (u3 (u3 _ _ _ _ _) _ _ _ _) _ _ _ _ _ = _
      rw [u3_ne _ hr, u3_ne _ hr, u3_ne _ hr]
  · show u3 (u3 _ _ _ _ _) _ _ _ _ _ = _
    rw [u3_ne _ hr, u3_ne _ hr]
theorem plR_eq (hn12 : n ≤ 12) {s : Int32} : ∀ (k i : Nat), i + k ≤ 6 → ∀ {q q' : (Nat → tR) × Int32}, EQ n (q.1 r) (q'.1 r') → q.2 = q'.2 → q.1 r 12 0 = nI n → EQ n ((plR Lr z r s k i q).1 r) ((plR Lr z r' s k i q').1 r') ∧ (plR Lr z r s k i q).2 = (plR Lr z r' s k i q').2
  | 0, _, _, _, _, h, hc, _ => ⟨h, hc⟩
  | k + 1, i, hi, _, _, h, hc, hn => plR_eq hn12 k (i + 1) (by omega) (plS_eq hn12 (by omega) h hc hn).1 (plS_eq hn12 (by omega) h hc hn).2 (by rw [plS_ap _ _ _ _ _ _ _ _ _ (by omega), hn])
theorem plR_ne {s : Int32} {r2 : Nat} (hr : ¬ r2 = r) : ∀ (k i : Nat) (q : (Nat → tR) × Int32), (plR Lr z r s k i q).1 r2 = q.1 r2
  | 0, _, _ => rfl
  | k + 1, i, q => (plR_ne hr k (i + 1) _).trans (plS_ne hr)
theorem plA_eq (hn12 : n ≤ 12) {s : Int32} (h : EQ n (A r) (A' r')) (hn : A r 12 0 = nI n) : EQ n (plA A r Lr z s r) (plA A' r' Lr z s r') := by
  have q := plR_eq (Lr := Lr) (z := z) hn12 (s := s) 6 0 (by omega) (q := (A, 0)) (q' := (A', 0)) h rfl hn
  show EQ n (u3 _ _ _ _ _ _) (u3 _ _ _ _ _ _)
  exact u3_eq q.1 (by rw [q.1.hi (a := 12) (b := 5) (by decide) (by decide) (by decide), q.2])
theorem plA_ne {s : Int32} {r2 : Nat} (hr : ¬ r2 = r) : plA A r Lr z s r2 = A r2 := by
  show u3 _ _ _ _ _ _ = _
  rw [u3_ne _ hr, plR_ne hr]
theorem psA_eq (hn12 : n ≤ 12) (h : EQ n (A r) (A' r')) (hn : A r 12 0 = nI n) : ∀ i, i ≤ 6 → EQ n (psA A r Lr z i r) (psA A' r' Lr z i r')
  | 0, _ => h
  | i + 1, hi => by
    have h1 := psA_eq hn12 h hn i (by omega)
    simp only [psA]
    rw [h1.hi (a := 10) (b := i) (by decide) (by decide) (by omega), h1.hi (a := 12) (b := 2) (by decide) (by decide) (by decide), h1.hi (a := 11) (b := i) (by decide) (by decide) (by omega)]
    split
    · exact plA_eq hn12 h1 (by rw [psA_ap _ _ _ _ _ _ _ (by omega), hn])
    · exact h1
theorem psA_ne {r2 : Nat} (hr : ¬ r2 = r) : ∀ i, psA A r Lr z i r2 = A r2
  | 0 => rfl
  | i + 1 => by
    simp only [psA]
    split
    · rw [plA_ne hr, psA_ne hr i]
    · exact psA_ne hr i
theorem sh1_eq (h : EQ n (A r) (A' r')) {j : Nat} (hj : j < n) : EQ n (sh1 A r j Lr z r) (sh1 A' r' j Lr z r') := by
  unfold sh1
  exact u3_eq h (by rw [sq_eq h, h.lo (a := 7) (b := j) (by decide) hj, h.lo (a := 0) (b := j) (by decide) hj, h.lo (a := 1) (b := j) (by decide) hj, h.lo (a := 2) (b := j) (by decide) hj, h.lo (a := 3) (b := j) (by decide) hj])
theorem shA_eq (hn12 : n ≤ 12) (h : EQ n (A r) (A' r')) {j : Nat} (hj : j < n) : EQ n (shA A r j Lr z r) (shA A' r' j Lr z r') := by
  have h1 := sh1_eq (Lr := Lr) (z := z) h hj
  unfold shA
  rw [h1.lo (a := 0) (b := j) (by decide) hj, h1.lo (a := 1) (b := j) (by decide) hj, h1.lo (a := 3) (b := j) (by decide) hj, h1.lo (a := 2) (b := j) (by decide) hj, h1.hi (a := 9) (b := j / 2) (by decide) (by decide) (by omega)]
  split
  · exact u3_eq (u3_eq h1 rfl) rfl
  · exact u3_eq (u3_eq h1 rfl) rfl
theorem shA_ne {j r2 : Nat} (hr : ¬ r2 = r) : shA A r j Lr z r2 = A r2 := by
  unfold shA
  split
  · rw [u3_ne _ hr, u3_ne _ hr, sh1, u3_ne _ hr]
  · rw [u3_ne _ hr, u3_ne _ hr, sh1, u3_ne _ hr]
theorem osA_eq (hn12 : n ≤ 12) (h : EQ n (A r) (A' r')) : ∀ i, i ≤ n → EQ n (osA A r Lr z i r) (osA A' r' Lr z i r')
  | 0, _ => h
  | i + 1, hi => by
    have h1 := osA_eq hn12 h i (by omega)
    simp only [osA]
    rw [h1.lo (a := 2) (b := i) (by decide) hi, h1.lo (a := 0) (b := i) (by decide) hi, h1.lo (a := 1) (b := i) (by decide) hi, h1.lo (a := 5) (b := i) (by decide) hi, h1.hi (a := 12) (b := 2) (by decide) (by decide) (by decide)]
    split
    · exact h1
    · split
      · exact shA_eq hn12 h1 hi
      · exact h1
theorem osA_ne {r2 : Nat} (hr : ¬ r2 = r) : ∀ i, osA A r Lr z i r2 = A r2
  | 0 => rfl
  | i + 1 => by
    simp only [osA]
    split
    · exact osA_ne hr i
    · split
      · rw [shA_ne hr, osA_ne hr i]
      · exact osA_ne hr i
theorem blA_eq (h : EQ n (A r) (A' r')) : ∀ i, i ≤ n → EQ n (blA A r i r) (blA A' r' i r')
  | 0, _ => h
  | i + 1, hi => by
    have h1 := blA_eq h i (by omega)
    simp only [blA]
    rw [h1.lo (a := 2) (b := i) (by decide) hi, h1.lo (a := 8) (b := i) (by decide) hi, h1.hi (a := 12) (b := 3) (by decide) (by decide) (by decide)]
    split
    · exact h1
    · exact u3_eq h1 rfl
theorem blA_ne {r2 : Nat} (hr : ¬ r2 = r) : ∀ i, blA A r i r2 = A r2
  | 0 => rfl
  | i + 1 => by
    simp only [blA]
    split
    · exact blA_ne hr i
    · rw [u3_ne _ hr, blA_ne hr i]
theorem hrA_eq (hn12 : n ≤ 12) {m : Nat} (hm6 : m ≤ 6) (h : EQ n (A r) (A' r')) (hn : A r 12 0 = nI n) : EQ n (hrA A r Lr z n m r) (hrA A' r' Lr z n m r') := by
  have h1 := blA_eq (osA_eq (Lr := Lr) (z := z) hn12 (psA_eq (Lr := Lr) (z := z) hn12 (snA_eq (Lr := Lr) (z := z) h) (by rw [snA_ap _ _ _ _ _ _ _ (by omega), hn]) m hm6) n (Nat.le_refl _)) n (Nat.le_refl _)
  show EQ n (u3 _ _ _ _ _ _) (u3 _ _ _ _ _ _)
  exact u3_eq h1 (by rw [h1.hi (a := 12) (b := 2) (by decide) (by decide) (by decide)])
theorem hrA_ne {m r2 : Nat} (hr : ¬ r2 = r) : hrA A r Lr z n m r2 = A r2 := by
  show u3 _ _ _ _ _ _ = _
  rw [u3_ne _ hr, blA_ne hr, osA_ne hr, psA_ne hr]
  exact sfA_ne hr 6
theorem hrs_eq (hn12 : n ≤ 12) {m : Nat} (hm6 : m ≤ 6) (h : EQ n (A r) (A' r')) (hn : A r 12 0 = nI n) : ∀ i, EQ n (hrs A r Lr z n m i r) (hrs A' r' Lr z n m i r')
  | 0 => h
  | i + 1 => hrA_eq hn12 hm6 (hrs_eq hn12 hm6 h hn i) (by rw [hrs_ap _ _ _ _ _ _ _ _ (by omega), hn])
theorem hrs_ne {m r2 : Nat} (hr : ¬ r2 = r) : ∀ i, hrs A r Lr z n m i r2 = A r2
  | 0 => rfl
  | i + 1 => (hrA_ne hr).trans (hrs_ne hr i)
theorem sbA_eq {l : Int64} {m : Int32} (h : EQ n (A r) (A' r')) : ∀ i, i ≤ 6 → EQ n (sbA A r l m i r) (sbA A' r' l m i r')
  | 0, _ => h
  | i + 1, hi => by
    have h1 := sbA_eq (l := l) (m := m) h i (by omega)
    simp only [sbA]
    exact u3_eq h1 (by rw [h1.hi (a := 9) (b := i) (by decide) (by decide) (by omega)])
theorem sbA_ne {l : Int64} {m : Int32} {r2 : Nat} (hr : ¬ r2 = r) : ∀ i, sbA A r l m i r2 = A r2
  | 0 => rfl
  | i + 1 => by rw [sbA, u3_ne _ hr, sbA_ne hr i]
theorem wns_eq (hn12 : n ≤ 12) {m : Nat} (hm6 : m ≤ 6) {l : Int64} {most : Int32} (h : EQ n (A r) (A' r')) (hn : A r 12 0 = nI n) : ∀ i, EQ n ((wns A r l Lr z n m most i).1 r) ((wns A' r' l Lr z n m most i).1 r') ∧ (wns A r l Lr z n m most i).2 = (wns A' r' l Lr z n m most i).2
  | 0 => ⟨h, rfl⟩
  | i + 1 => by
    have h1 := wns_eq hn12 hm6 (l := l) (most := most) h hn i
    simp only [wns]
    rw [h1.2]
    exact ⟨hrA_eq hn12 hm6 (sbA_eq h1.1 6 (Nat.le_refl _)) (by rw [sbA_ap, wns_ap _ _ _ _ _ _ _ _ _ _ (by omega), hn]), rfl⟩
theorem wns_ne {m : Nat} {l : Int64} {most : Int32} {r2 : Nat} (hr : ¬ r2 = r) : ∀ i, (wns A r l Lr z n m most i).1 r2 = A r2
  | 0 => rfl
  | i + 1 => (hrA_ne hr).trans ((sbA_ne hr 6).trans (wns_ne hr i))
end
/-- a road as a thought begins with it -/
def zt (R : tR) : tR := fun a b => if a = 7 ∨ a = 8 ∨ (a = 12 ∧ b = 5) then 0 else R a b
def gon (R Lr : tR) (z : Nat → Nat) (n p m : Nat) : tR := hrs (fun _ => zt R) 0 Lr z n p m 0
def win (R : tR) (l : Int64) (Lr : tR) (z : Nat → Nat) (n p : Nat) (most : Int32) (m : Nat) : tR := (wns (fun _ => zt R) 0 l Lr z n p most m).1 0
/-- alike on what stays (not the tallies) -/
def ES (n : Nat) (R R' : tR) : Prop := EQ n (zt R) (zt R')
theorem ES.symm {n : Nat} {R R' : tR} (h : ES n R R') : ES n R' R := EQ.symm h
theorem ES.trans {n : Nat} {R R' R2 : tR} (h : ES n R R') (k : ES n R' R2) : ES n R R2 := EQ.trans h k
theorem ES.refl {n : Nat} {R : tR} : ES n R R := EQ.refl
theorem ES.lo {n : Nat} {R R' : tR} (h : ES n R R') {a b : Nat} (ha : a ≤ 6) (hb : b < n) : R a b = R' a b := by
  have q := EQ.lo h (a := a) (b := b) (by omega) hb
  unfold zt at q
  rw [if_neg (by omega), if_neg (by omega)] at q
  exact q
theorem ES.hi {n : Nat} {R R' : tR} (h : ES n R R') {a b : Nat} (ha : 9 ≤ a) (ha2 : a ≤ 11) (hb : b < 6) : R a b = R' a b := by
  have q := EQ.hi h (a := a) (b := b) (by omega) (by omega) hb
  unfold zt at q
  rw [if_neg (by omega), if_neg (by omega)] at q
  exact q
theorem ES.tw {n : Nat} {R R' : tR} (h : ES n R R') {b : Nat} (hb : b < 5) : R 12 b = R' 12 b := by
  have q := EQ.hi h (a := 12) (b := b) (by omega) (by omega) (by omega)
  unfold zt at q
  rw [if_neg (by omega), if_neg (by omega)] at q
  exact q
theorem ES.of {n : Nat} {R R' : tR} (h1 : ∀ a b, a ≤ 6 → b < n → R a b = R' a b) (h2 : ∀ a b, 9 ≤ a → a ≤ 11 → b < 6 → R a b = R' a b) (h3 : ∀ b, b < 5 → R 12 b = R' 12 b) : ES n R R' := by
  intro a b u
  unfold zt
  split
  · rfl
  · rename_i hc
    rcases u with ⟨u1, u2⟩ | ⟨u1, u2, u3⟩
    · exact h1 a b (by omega) u2
    · by_cases e : a = 12
      · subst e; exact h3 b (by omega)
      · exact h2 a b u1 (by omega) u3
theorem ES.of_EQ {n : Nat} {R R' : tR} (h : EQ n R R') : ES n R R' := ES.of (fun _ _ h1 h2 => h.lo (by omega) h2) (fun _ _ h1 h2 h3 => h.hi h1 (by omega) h3) (fun _ h1 => h.hi (by omega) (by omega) (by omega))
theorem ES_zt {n : Nat} {R : tR} : ES n (zt R) R := by
  intro a b u
  unfold zt
  split
  · rfl
  · rfl
theorem gon_eq {n p m : Nat} (hn12 : n ≤ 12) (hp6 : p ≤ 6) {R R' Lr : tR} {z : Nat → Nat} (h : ES n R R') (hn : R 12 0 = nI n) : EQ n (gon R Lr z n p m) (gon R' Lr z n p m) :=
  hrs_eq (A := fun _ => zt R) (A' := fun _ => zt R') (r := 0) (r' := 0) hn12 hp6 h (show zt R 12 0 = nI n from hn) m
theorem win_eq {n p m : Nat} (hn12 : n ≤ 12) (hp6 : p ≤ 6) {R R' Lr : tR} {z : Nat → Nat} {l : Int64} {most : Int32} (h : ES n R R') (hn : R 12 0 = nI n) : EQ n (win R l Lr z n p most m) (win R' l Lr z n p most m) :=
  (wns_eq (A := fun _ => zt R) (A' := fun _ => zt R') (r := 0) (r' := 0) hn12 hp6 h (show zt R 12 0 = nI n from hn) m).1
theorem bkA_eq {A : Nat → tR} {r r2 n : Nat} (hr : ¬ r2 = r) (hn12 : n ≤ 12) : EQ n (bkA A r r2 n r) (zt (A r2)) := by
  intro a b u
  unfold bkA zt
  by_cases h1 : (a < 7 ∧ b < n) ∨ ((a = 9 ∨ a = 10 ∨ a = 11) ∧ b < 6) ∨ (a = 12 ∧ b < 5)
  · rw [if_pos ⟨rfl, h1⟩, if_neg (by omega)]
  · rw [if_neg (fun q => h1 q.2)]
    rcases u with ⟨u1, u2⟩ | ⟨u1, u2, u3⟩
    · rw [if_pos ⟨rfl, by omega⟩, if_pos (by omega)]
    · rw [if_pos ⟨rfl, by omega⟩, if_pos (by omega)]
theorem bkA_ne {A : Nat → tR} {r r2 n r3 : Nat} (hr : ¬ r3 = r) : bkA A r r2 n r3 = A r3 := by
  funext a b
  unfold bkA
  rw [if_neg (fun q => hr q.1), if_neg (fun q => hr q.1)]
/-- one number of an owner's being another -/
def chg (R : tR) (j : Nat) (w v : Int32) : tR := ochg (fun _ => R) 0 j w v 0
theorem ochg_ne {A : Nat → tR} {r j r2 : Nat} {w v : Int32} (hr : ¬ r2 = r) : ochg A r j w v r2 = A r2 := by
  unfold ochg
  repeat' split
  all_goals exact u3_ne _ hr _ _ _
theorem ochg_eq {n : Nat} {A : Nat → tR} {r j : Nat} {w v : Int32} {R : tR} (h : EQ n (A r) (zt R)) : EQ n (ochg A r j w v r) (zt (chg R j w v)) := by
  have key : ∀ i, i ≤ 6 → EQ n (u3 A r i j v r) (zt (u3 (fun _ => R) 0 i j v 0)) := by
    intro i hi a b u
    have q := h a b u
    unfold zt at q ⊢
    rw [u3_ap, u3_ap]
    by_cases e : a = i ∧ b = j
    · rw [if_pos ⟨rfl, e⟩, if_neg (by omega), if_pos ⟨rfl, e⟩]
    · rw [if_neg (fun t => e t.2), if_neg (fun t : 0 = 0 ∧ a = i ∧ b = j => e t.2)]
      exact q
  unfold chg ochg
  repeat' split
  all_goals exact key _ (by decide)
theorem chg_12 (R : tR) (j : Nat) (w v : Int32) (b : Nat) : chg R j w v 12 b = R 12 b := ochg_12 _ _ _ _ _ _ _
theorem gon_12 (R Lr : tR) (z : Nat → Nat) (n p m b : Nat) (h : ¬ (b = 2 ∨ b = 5)) : gon R Lr z n p m 12 b = R 12 b := by
  unfold gon
  rw [hrs_ap _ _ _ _ _ _ _ _ h]
  unfold zt
  rw [if_neg (by omega)]
theorem win_12 (R : tR) (l : Int64) (Lr : tR) (z : Nat → Nat) (n p : Nat) (most : Int32) (m b : Nat) (h : ¬ (b = 2 ∨ b = 5)) : win R l Lr z n p most m 12 b = R 12 b := by
  unfold win
  rw [wns_ap _ _ _ _ _ _ _ _ _ _ h]
  unfold zt
  rw [if_neg (by omega)]
-- answers of roads alike
section
variable {n : Nat} {R R' : tR} (h : EQ n R R')
theorem sm7_eq : ∀ {n : Nat} {R R' : tR}, (∀ j, j < n → R 7 j = R' 7 j) → sm7 R n = sm7 R' n
  | 0, _, _, _ => rfl
  | n + 1, R, R', h => by rw [sm7, sm7, sm7_eq (n := n) (fun j hj => h j (by omega)), h n (by omega)]
theorem sm8_eq : ∀ {n : Nat} {R R' : tR}, (∀ j, j < n → R 8 j = R' 8 j) → sm8 R n = sm8 R' n
  | 0, _, _, _ => rfl
  | n + 1, R, R', h => by rw [sm8, sm8, sm8_eq (n := n) (fun j hj => h j (by omega)), h n (by omega)]
theorem bz_eq : ∀ {n : Nat} {R R' : tR}, (∀ j, j < n → R 7 j = R' 7 j) → bz R n = bz R' n
  | 0, _, _, _ => rfl
  | n + 1, R, R', h => by rw [bz, bz, bz_eq (n := n) (fun j hj => h j (by omega)), h n (by omega)]
theorem hh_eq : ∀ {n : Nat} {R R' : tR}, (∀ j, j < n → R 3 j = R' 3 j) → hh R n = hh R' n
  | 0, _, _, _ => rfl
  | n + 1, R, R', h => by rw [hh, hh, hh_eq (n := n) (fun j hj => h j (by omega)), h n (by omega)]
theorem fo_eq {P : Nat → Int32} : ∀ (k i : Nat) {Q Q' : Nat → Int32}, (∀ j, j < i + k → Q j = Q' j) → fo P Q k i = fo P Q' k i
  | 0, _, _, _, _ => rfl
  | k + 1, i, Q, Q', h => by rw [fo, fo, h i (by omega), fo_eq k (i + 1) (fun j hj => h j (by omega))]
theorem EQ.sm7 {n : Nat} {R R' : tR} (h : EQ n R R') : sm7 R n = sm7 R' n := sm7_eq (fun j hj => h.lo (by decide) hj)
theorem EQ.sm8 {n : Nat} {R R' : tR} (h : EQ n R R') : sm8 R n = sm8 R' n := sm8_eq (fun j hj => h.lo (by decide) hj)
theorem EQ.bz {n : Nat} {R R' : tR} (h : EQ n R R') : bz R n = bz R' n := bz_eq (fun j hj => h.lo (by decide) hj)
theorem EQ.hh {n : Nat} {R R' : tR} (h : EQ n R R') : hh R n = hh R' n := hh_eq (fun j hj => h.lo (by decide) hj)
theorem EQ.mom_ {n : Nat} {R R' : tR} (h : EQ n R R') : mom R n = mom R' n := by unfold mom; rw [h.bz]
theorem EQ.ans {n : Nat} {R R' : tR} (h : EQ n R R') (w : Int32) : ans_ R n w = ans_ R' n w := by
  unfold ans_
  rw [h.sm7, h.sm8, h.hh, h.bz, h.hi (a := 12) (b := 5) (by decide) (by decide) (by decide)]
theorem EQ.fo {n : Nat} {R R' : tR} (h : EQ n R R') (P : Nat → Int32) : fo P (R 2) n 0 = fo P (R' 2) n 0 := fo_eq n 0 (fun j hj => h.lo (by decide) (by omega))
end
