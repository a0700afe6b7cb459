/-! THE MODEL: what a call leaves as it was; one cell another (wip/whole/gen40.py) -/
def SPC (i : Nat) : Prop := i = 0 ∨ i = 1 ∨ i = 2 ∨ i = 3 ∨ i = 5 ∨ (17 ≤ i ∧ i ≤ 23)
/-- all that stays, but for the cells C (array, place; 99: the numbers) -/
def FRc (C : Nat → Nat → Prop) (Y : tR) (S : Nat → Int32) (Y' : tR) (S' : Nat → Int32) : Prop := (∀ i, ¬ SPC i → Y' i = Y i) ∧ (∀ k, k < 12 → (¬ C 0 k → Y' 0 k = Y 0 k) ∧ (¬ C 1 k → Y' 1 k = Y 1 k)) ∧ (∀ k, k < 60 → ¬ C 2 k → Y' 2 k = Y 2 k) ∧ (∀ k, k < 6 → (¬ C 3 k → Y' 3 k = Y 3 k) ∧ (¬ C 5 k → Y' 5 k = Y 5 k)) ∧ (∀ j, ¬ (j = 34 ∨ j = 38 ∨ j = 40) → ¬ C 99 j → S' j = S j)
def C0 : Nat → Nat → Prop := fun _ _ => False
def FRq (Y : tR) (S : Nat → Int32) (Y' : tR) (S' : Nat → Int32) : Prop := FRc C0 Y S Y' S'
section
variable {C : Nat → Nat → Prop} {Y Y1 Y2 : tR} {S S1 S2 : Nat → Int32}
theorem FRc.refl : FRc C Y S Y S := ⟨fun _ _ => rfl, fun _ _ => ⟨fun _ => rfl, fun _ => rfl⟩, fun _ _ _ => rfl, fun _ _ => ⟨fun _ => rfl, fun _ => rfl⟩, fun _ _ _ => rfl⟩
theorem FRq.refl : FRq Y S Y S := FRc.refl
theorem FRc.trans (h : FRc C Y S Y1 S1) (k : FRc C Y1 S1 Y2 S2) : FRc C Y S Y2 S2 :=
  ⟨fun i hi => (k.1 i hi).trans (h.1 i hi), fun i hi => ⟨fun c => ((k.2.1 i hi).1 c).trans ((h.2.1 i hi).1 c), fun c => ((k.2.1 i hi).2 c).trans ((h.2.1 i hi).2 c)⟩, fun i hi c => (k.2.2.1 i hi c).trans (h.2.2.1 i hi c), fun i hi => ⟨fun c => ((k.2.2.2.1 i hi).1 c).trans ((h.2.2.2.1 i hi).1 c), fun c => ((k.2.2.2.1 i hi).2 c).trans ((h.2.2.2.1 i hi).2 c)⟩, fun j hj c => (k.2.2.2.2 j hj c).trans (h.2.2.2.2 j hj c)⟩
theorem FRg.c (h : FRg Y S Y1 S1) : FRc C Y S Y1 S1 := by
  obtain ⟨a, b, c, e⟩ := h
  refine ⟨fun i hi => a i (by unfold SPC at hi; omega), fun i hi => ⟨fun _ => congrFun (a 0 (by decide)) i, fun _ => congrFun (a 1 (by decide)) i⟩, fun i hi _ => c i hi, fun i hi => ⟨fun _ => e i hi, fun _ => congrFun (a 5 (by decide)) i⟩, fun j hj _ => b j hj⟩
theorem FRc.g (h : FRc C Y S Y1 S1) (k : FRg Y1 S1 Y2 S2) : FRc C Y S Y2 S2 := h.trans k.c
theorem FRc.q (h : FRc C Y S Y1 S1) (k : FRq Y1 S1 Y2 S2) : FRc C Y S Y2 S2 :=
  h.trans ⟨k.1, fun i hi => ⟨fun _ => (k.2.1 i hi).1 (fun q => q), fun _ => (k.2.1 i hi).2 (fun q => q)⟩, fun i hi _ => k.2.2.1 i hi (fun q => q), fun i hi => ⟨fun _ => (k.2.2.2.1 i hi).1 (fun q => q), fun _ => (k.2.2.2.1 i hi).2 (fun q => q)⟩, fun j hj _ => k.2.2.2.2 j hj (fun q => q)⟩
theorem FRc.u (h : FRc C Y S Y1 S1) {a k : Nat} {v : Int32} (hC : C a k) (ha : a = 0 ∨ a = 1 ∨ a = 2 ∨ a = 3 ∨ a = 5) : FRc C Y S (u2 Y1 a k v) S1 := by
  have key : ∀ b i, ¬ C b i → u2 Y1 a k v b i = Y1 b i := by
    intro b i hc
    rw [u2_ap, if_neg]
    rintro ⟨rfl, rfl⟩
    exact hc hC
  exact ⟨fun i hi => (u2_row (by unfold SPC at hi; omega)).trans (h.1 i hi), fun i hi => ⟨fun c => (key 0 i c).trans ((h.2.1 i hi).1 c), fun c => (key 1 i c).trans ((h.2.1 i hi).2 c)⟩, fun i hi c => (key 2 i c).trans (h.2.2.1 i hi c), fun i hi => ⟨fun c => (key 3 i c).trans ((h.2.2.2.1 i hi).1 c), fun c => (key 5 i c).trans ((h.2.2.2.1 i hi).2 c)⟩, h.2.2.2.2⟩
theorem FRc.k (h : FRc C Y S Y1 S1) {a k : Nat} {v : Int32} (ha : 17 ≤ a ∧ a ≤ 23) : FRc C Y S (u2 Y1 a k v) S1 := by
  have key : ∀ b, b ≤ 5 → u2 Y1 a k v b = Y1 b := fun b hb => u2_row (by omega)
  exact ⟨fun i hi => (u2_row (by unfold SPC at hi; omega)).trans (h.1 i hi), by rw [key 0 (by decide), key 1 (by decide)]; exact h.2.1, by rw [key 2 (by decide)]; exact h.2.2.1, by rw [key 3 (by decide), key 5 (by decide)]; exact h.2.2.2.1, h.2.2.2.2⟩
theorem FRc.s (h : FRc C Y S Y1 S1) {j : Nat} {v : Int32} (hC : C 99 j) : FRc C Y S Y1 (va_up S1 j v) :=
  ⟨h.1, h.2.1, h.2.2.1, h.2.2.2.1, fun i hi c => (va_oth _ _ (fun e => c (by rw [e]; exact hC))).trans (h.2.2.2.2 i hi c)⟩
/-- laid back: off the cells C nothing is another, on them all is as it was -/
theorem FRc.close (h : FRc C Y S Y1 S1) (h0 : ∀ k, k < 12 → C 0 k → Y1 0 k = Y 0 k) (h1 : ∀ k, k < 12 → C 1 k → Y1 1 k = Y 1 k) (h2 : ∀ k, k < 60 → C 2 k → Y1 2 k = Y 2 k) (h3 : ∀ k, k < 6 → C 3 k → Y1 3 k = Y 3 k) (h5 : ∀ k, k < 6 → C 5 k → Y1 5 k = Y 5 k) (hs : ∀ j, C 99 j → S1 j = S j) : FRq Y S Y1 S1 := by
  refine ⟨h.1, fun i hi => ⟨fun _ => ?_, fun _ => ?_⟩, fun i hi _ => ?_, fun i hi => ⟨fun _ => ?_, fun _ => ?_⟩, fun j hj _ => ?_⟩
  · by_cases c : C 0 i
    · exact h0 i hi c
    · exact (h.2.1 i hi).1 c
  · by_cases c : C 1 i
    · exact h1 i hi c
    · exact (h.2.1 i hi).2 c
  · by_cases c : C 2 i
    · exact h2 i hi c
    · exact h.2.2.1 i hi c
  · by_cases c : C 3 i
    · exact h3 i hi c
    · exact (h.2.2.2.1 i hi).1 c
  · by_cases c : C 5 i
    · exact h5 i hi c
    · exact (h.2.2.2.1 i hi).2 c
  · by_cases c : C 99 j
    · exact hs j c
    · exact h.2.2.2.2 j hj c
theorem FRq.es (h : FRq Y S Y1 S1) {n : Nat} (hn12 : n ≤ 12) : ES n (MA Y1 S1) (MA Y S) := by
  have f : ∀ a b, ¬ C0 a b := fun _ _ q => q
  refine ES.of (fun a b ha hb => ?_) (fun a b ha ha2 hb => ?_) (fun b hb => ?_)
  · have : a = 0 ∨ a = 1 ∨ a = 2 ∨ a = 3 ∨ a = 4 ∨ a = 5 ∨ a = 6 := by omega
    rcases this with rfl | rfl | rfl | rfl | rfl | rfl | rfl
    · exact (h.2.1 b (by omega)).1 (f _ _)
    · exact (h.2.1 b (by omega)).2 (f _ _)
    · exact h.2.2.1 (5 * b + (2 - 2)) (by omega) (f _ _)
    · exact h.2.2.1 (5 * b + (3 - 2)) (by omega) (f _ _)
    · exact h.2.2.1 (5 * b + (4 - 2)) (by omega) (f _ _)
    · exact h.2.2.1 (5 * b + (5 - 2)) (by omega) (f _ _)
    · exact h.2.2.1 (5 * b + (6 - 2)) (by omega) (f _ _)
  · have : a = 9 ∨ a = 10 ∨ a = 11 := by omega
    rcases this with rfl | rfl | rfl
    · exact (h.2.2.2.1 b hb).1 (f _ _)
    · exact congrFun (h.1 4 (by unfold SPC; omega)) b
    · exact (h.2.2.2.1 b hb).2 (f _ _)
  · have : b = 0 ∨ b = 1 ∨ b = 2 ∨ b = 3 ∨ b = 4 := by omega
    rcases this with rfl | rfl | rfl | rfl | rfl
    · exact h.2.2.2.2 0 (by decide) (f _ _)
    · exact h.2.2.2.2 5 (by decide) (f _ _)
    · exact h.2.2.2.2 8 (by decide) (f _ _)
    · exact h.2.2.2.2 9 (by decide) (f _ _)
    · exact h.2.2.2.2 15 (by decide) (f _ _)
theorem FRc.lm (h : FRc C Y S Y1 S1) {t : Nat} {Lr : tR} {z : Nat → Nat} (hM : LM Y t Lr z) : LM Y1 t Lr z := by
  unfold LM at hM ⊢
  rw [h.1 8 (by unfold SPC; omega), h.1 7 (by unfold SPC; omega)]
  exact hM
theorem MS.q {R Lr : tR} {z : Nat → Nat} {n p t : Nat} (hX : MS Y S R Lr z n p t) (h : FRq Y S Y1 S1) : MS Y1 S1 R Lr z n p t := by
  obtain ⟨hq, hn, hn12, hp, hp6, hlw, ht, hL, hM, hB⟩ := hX
  exact ⟨(h.es hn12).trans hq, hn, hn12, hp, hp6, hlw, ht, hL, FRc.lm h hM, hB⟩
theorem MS.set {R R' Lr : tR} {z : Nat → Nat} {n p t : Nat} (hX : MS Y S R Lr z n p t) (he : ES n (MA Y1 S1) R') (h0 : R' 12 0 = R 12 0) (h1 : R' 12 1 = R 12 1) (h4 : R' 12 4 = R 12 4) (hM' : LM Y t Lr z → LM Y1 t Lr z) (hb : ∀ j, j < n → 0 ≤ R' 4 j) : MS Y1 S1 R' Lr z n p t := by
  obtain ⟨hq, hn, hn12, hp, hp6, hlw, ht, hL, hM, hB⟩ := hX
  exact ⟨he, h0.trans hn, hn12, h1.trans hp, hp6, h4.trans hlw, ht, hL, hM' hM, hb⟩
theorem u2_u2 {a k : Nat} {v w : Int32} : u2 (u2 Y a k v) a k w = u2 Y a k w := by
  funext i j
  rw [u2_ap, u2_ap, u2_ap]
  split
  · rfl
  · rfl
theorem lm_u {a k t : Nat} {v : Int32} {Lr : tR} {z : Nat → Nat} (ha : ¬ (a = 7 ∨ a = 8)) (hM : LM Y t Lr z) : LM (u2 Y a k v) t Lr z := by
  unfold LM at hM ⊢
  rw [u2_row (show ¬ 8 = a by omega), u2_row (show ¬ 7 = a by omega)]
  exact hM
end
section
variable {n : Nat} {Y : tR} {S : Nat → Int32} {A : Nat → tR} {r j : Nat} {v v' : Int32}
theorem mes_0 (h : ES n (MA Y S) (A r)) (hv : v = v') : ES n (MA (u2 Y 0 j v) S) (u3 A r 0 j v' r) := by
  refine ES.of (fun a b ha u => ?_) (fun a b ha ha2 u => ?_) (fun b u => ?_)
  · have : a = 0 ∨ a = 1 ∨ a = 2 ∨ a = 3 ∨ a = 4 ∨ a = 5 ∨ a = 6 := by omega
    rcases this with rfl | rfl | rfl | rfl | rfl | rfl | rfl
    · rw [u3_ap]
      show u2 Y 0 j v 0 b = _
      rw [u2_ap]
      by_cases e : b = j
      · rw [if_pos ⟨rfl, e⟩, if_pos ⟨rfl, rfl, e⟩, hv]
      · rw [if_neg (fun q => e q.2), if_neg (fun q => e q.2.2)]
        exact h.lo ha u
    · rw [u3_ap, if_neg (by omega)]; exact h.lo ha u
    · rw [u3_ap, if_neg (by omega)]; exact h.lo ha u
    · rw [u3_ap, if_neg (by omega)]; exact h.lo ha u
    · rw [u3_ap, if_neg (by omega)]; exact h.lo ha u
    · rw [u3_ap, if_neg (by omega)]; exact h.lo ha u
    · rw [u3_ap, if_neg (by omega)]; exact h.lo ha u
  · have : a = 9 ∨ a = 10 ∨ a = 11 := by omega
    rcases this with rfl | rfl | rfl
    · rw [u3_ap, if_neg (by omega)]; exact h.hi (a := 9) (b := b) (by decide) (by decide) u
    · rw [u3_ap, if_neg (by omega)]; exact h.hi (a := 10) (b := b) (by decide) (by decide) u
    · rw [u3_ap, if_neg (by omega)]; exact h.hi (a := 11) (b := b) (by decide) (by decide) u
  · have : b = 0 ∨ b = 1 ∨ b = 2 ∨ b = 3 ∨ b = 4 := by omega
    rcases this with rfl | rfl | rfl | rfl | rfl
    · rw [u3_ap, if_neg (by omega)]; exact h.tw u
    · rw [u3_ap, if_neg (by omega)]; exact h.tw u
    · rw [u3_ap, if_neg (by omega)]; exact h.tw u
    · rw [u3_ap, if_neg (by omega)]; exact h.tw u
    · rw [u3_ap, if_neg (by omega)]; exact h.tw u
theorem mes_1 (h : ES n (MA Y S) (A r)) (hv : v = v') : ES n (MA (u2 Y 1 j v) S) (u3 A r 1 j v' r) := by
  refine ES.of (fun a b ha u => ?_) (fun a b ha ha2 u => ?_) (fun b u => ?_)
  · have : a = 0 ∨ a = 1 ∨ a = 2 ∨ a = 3 ∨ a = 4 ∨ a = 5 ∨ a = 6 := by omega
    rcases this with rfl | rfl | rfl | rfl | rfl | rfl | rfl
    · rw [u3_ap, if_neg (by omega)]; exact h.lo ha u
    · rw [u3_ap]
      show u2 Y 1 j v 1 b = _
      rw [u2_ap]
      by_cases e : b = j
      · rw [if_pos ⟨rfl, e⟩, if_pos ⟨rfl, rfl, e⟩, hv]
      · rw [if_neg (fun q => e q.2), if_neg (fun q => e q.2.2)]
        exact h.lo ha u
    · rw [u3_ap, if_neg (by omega)]; exact h.lo ha u
    · rw [u3_ap, if_neg (by omega)]; exact h.lo ha u
    · rw [u3_ap, if_neg (by omega)]; exact h.lo ha u
    · rw [u3_ap, if_neg (by omega)]; exact h.lo ha u
    · rw [u3_ap, if_neg (by omega)]; exact h.lo ha u
  · have : a = 9 ∨ a = 10 ∨ a = 11 := by omega
    rcases this with rfl | rfl | rfl
    · rw [u3_ap, if_neg (by omega)]; exact h.hi (a := 9) (b := b) (by decide) (by decide) u
    · rw [u3_ap, if_neg (by omega)]; exact h.hi (a := 10) (b := b) (by decide) (by decide) u
    · rw [u3_ap, if_neg (by omega)]; exact h.hi (a := 11) (b := b) (by decide) (by decide) u
  · have : b = 0 ∨ b = 1 ∨ b = 2 ∨ b = 3 ∨ b = 4 := by omega
    rcases this with rfl | rfl | rfl | rfl | rfl
    · rw [u3_ap, if_neg (by omega)]; exact h.tw u
    · rw [u3_ap, if_neg (by omega)]; exact h.tw u
    · rw [u3_ap, if_neg (by omega)]; exact h.tw u
    · rw [u3_ap, if_neg (by omega)]; exact h.tw u
    · rw [u3_ap, if_neg (by omega)]; exact h.tw u
theorem mes_3 (h : ES n (MA Y S) (A r)) (hv : v = v') : ES n (MA (u2 Y 3 j v) S) (u3 A r 9 j v' r) := by
  refine ES.of (fun a b ha u => ?_) (fun a b ha ha2 u => ?_) (fun b u => ?_)
  · have : a = 0 ∨ a = 1 ∨ a = 2 ∨ a = 3 ∨ a = 4 ∨ a = 5 ∨ a = 6 := by omega
    rcases this with rfl | rfl | rfl | rfl | rfl | rfl | rfl
    · rw [u3_ap, if_neg (by omega)]; exact h.lo ha u
    · rw [u3_ap, if_neg (by omega)]; exact h.lo ha u
    · rw [u3_ap, if_neg (by omega)]; exact h.lo ha u
    · rw [u3_ap, if_neg (by omega)]; exact h.lo ha u
    · rw [u3_ap, if_neg (by omega)]; exact h.lo ha u
    · rw [u3_ap, if_neg (by omega)]; exact h.lo ha u
    · rw [u3_ap, if_neg (by omega)]; exact h.lo ha u
  · have : a = 9 ∨ a = 10 ∨ a = 11 := by omega
    rcases this with rfl | rfl | rfl
    · rw [u3_ap]
      show u2 Y 3 j v 3 b = _
      rw [u2_ap]
      by_cases e : b = j
      · rw [if_pos ⟨rfl, e⟩, if_pos ⟨rfl, rfl, e⟩, hv]
      · rw [if_neg (fun q => e q.2), if_neg (fun q => e q.2.2)]
        exact h.hi (a := 9) (b := b) (by decide) (by decide) u
    · rw [u3_ap, if_neg (by omega)]; exact h.hi (a := 10) (b := b) (by decide) (by decide) u
    · rw [u3_ap, if_neg (by omega)]; exact h.hi (a := 11) (b := b) (by decide) (by decide) u
  · have : b = 0 ∨ b = 1 ∨ b = 2 ∨ b = 3 ∨ b = 4 := by omega
    rcases this with rfl | rfl | rfl | rfl | rfl
    · rw [u3_ap, if_neg (by omega)]; exact h.tw u
    · rw [u3_ap, if_neg (by omega)]; exact h.tw u
    · rw [u3_ap, if_neg (by omega)]; exact h.tw u
    · rw [u3_ap, if_neg (by omega)]; exact h.tw u
    · rw [u3_ap, if_neg (by omega)]; exact h.tw u
theorem mes_4 (h : ES n (MA Y S) (A r)) (hv : v = v') : ES n (MA (u2 Y 4 j v) S) (u3 A r 10 j v' r) := by
  refine ES.of (fun a b ha u => ?_) (fun a b ha ha2 u => ?_) (fun b u => ?_)
  · have : a = 0 ∨ a = 1 ∨ a = 2 ∨ a = 3 ∨ a = 4 ∨ a = 5 ∨ a = 6 := by omega
    rcases this with rfl | rfl | rfl | rfl | rfl | rfl | rfl
    · rw [u3_ap, if_neg (by omega)]; exact h.lo ha u
    · rw [u3_ap, if_neg (by omega)]; exact h.lo ha u
    · rw [u3_ap, if_neg (by omega)]; exact h.lo ha u
    · rw [u3_ap, if_neg (by omega)]; exact h.lo ha u
    · rw [u3_ap, if_neg (by omega)]; exact h.lo ha u
    · rw [u3_ap, if_neg (by omega)]; exact h.lo ha u
    · rw [u3_ap, if_neg (by omega)]; exact h.lo ha u
  · have : a = 9 ∨ a = 10 ∨ a = 11 := by omega
    rcases this with rfl | rfl | rfl
    · rw [u3_ap, if_neg (by omega)]; exact h.hi (a := 9) (b := b) (by decide) (by decide) u
    · rw [u3_ap]
      show u2 Y 4 j v 4 b = _
      rw [u2_ap]
      by_cases e : b = j
      · rw [if_pos ⟨rfl, e⟩, if_pos ⟨rfl, rfl, e⟩, hv]
      · rw [if_neg (fun q => e q.2), if_neg (fun q => e q.2.2)]
        exact h.hi (a := 10) (b := b) (by decide) (by decide) u
    · rw [u3_ap, if_neg (by omega)]; exact h.hi (a := 11) (b := b) (by decide) (by decide) u
  · have : b = 0 ∨ b = 1 ∨ b = 2 ∨ b = 3 ∨ b = 4 := by omega
    rcases this with rfl | rfl | rfl | rfl | rfl
    · rw [u3_ap, if_neg (by omega)]; exact h.tw u
    · rw [u3_ap, if_neg (by omega)]; exact h.tw u
    · rw [u3_ap, if_neg (by omega)]; exact h.tw u
    · rw [u3_ap, if_neg (by omega)]; exact h.tw u
    · rw [u3_ap, if_neg (by omega)]; exact h.tw u
theorem mes_5 (h : ES n (MA Y S) (A r)) (hv : v = v') : ES n (MA (u2 Y 5 j v) S) (u3 A r 11 j v' r) := by
  refine ES.of (fun a b ha u => ?_) (fun a b ha ha2 u => ?_) (fun b u => ?_)
  · have : a = 0 ∨ a = 1 ∨ a = 2 ∨ a = 3 ∨ a = 4 ∨ a = 5 ∨ a = 6 := by omega
    rcases this with rfl | rfl | rfl | rfl | rfl | rfl | rfl
    · rw [u3_ap, if_neg (by omega)]; exact h.lo ha u
    · rw [u3_ap, if_neg (by omega)]; exact h.lo ha u
    · rw [u3_ap, if_neg (by omega)]; exact h.lo ha u
    · rw [u3_ap, if_neg (by omega)]; exact h.lo ha u
    · rw [u3_ap, if_neg (by omega)]; exact h.lo ha u
    · rw [u3_ap, if_neg (by omega)]; exact h.lo ha u
    · rw [u3_ap, if_neg (by omega)]; exact h.lo ha u
  · have : a = 9 ∨ a = 10 ∨ a = 11 := by omega
    rcases this with rfl | rfl | rfl
    · rw [u3_ap, if_neg (by omega)]; exact h.hi (a := 9) (b := b) (by decide) (by decide) u
    · rw [u3_ap, if_neg (by omega)]; exact h.hi (a := 10) (b := b) (by decide) (by decide) u
    · rw [u3_ap]
      show u2 Y 5 j v 5 b = _
      rw [u2_ap]
      by_cases e : b = j
      · rw [if_pos ⟨rfl, e⟩, if_pos ⟨rfl, rfl, e⟩, hv]
      · rw [if_neg (fun q => e q.2), if_neg (fun q => e q.2.2)]
        exact h.hi (a := 11) (b := b) (by decide) (by decide) u
  · have : b = 0 ∨ b = 1 ∨ b = 2 ∨ b = 3 ∨ b = 4 := by omega
    rcases this with rfl | rfl | rfl | rfl | rfl
    · rw [u3_ap, if_neg (by omega)]; exact h.tw u
    · rw [u3_ap, if_neg (by omega)]; exact h.tw u
    · rw [u3_ap, if_neg (by omega)]; exact h.tw u
    · rw [u3_ap, if_neg (by omega)]; exact h.tw u
    · rw [u3_ap, if_neg (by omega)]; exact h.tw u
theorem mes_r0 (h : ES n (MA Y S) (A r)) (hv : v = v') : ES n (MA (u2 Y 2 (5 * j) v) S) (u3 A r 2 j v' r) := by
  refine ES.of (fun a b ha u => ?_) (fun a b ha ha2 u => ?_) (fun b u => ?_)
  · have : a = 0 ∨ a = 1 ∨ a = 2 ∨ a = 3 ∨ a = 4 ∨ a = 5 ∨ a = 6 := by omega
    rcases this with rfl | rfl | rfl | rfl | rfl | rfl | rfl
    · rw [u3_ap, if_neg (by omega)]; exact h.lo ha u
    · rw [u3_ap, if_neg (by omega)]; exact h.lo ha u
    · rw [u3_ap]
      show u2 Y 2 (5 * j) v 2 (5 * b + (2 - 2)) = _
      rw [u2_ap]
      by_cases e : b = j
      · rw [if_pos ⟨rfl, by omega⟩, if_pos ⟨rfl, rfl, e⟩, hv]
      · rw [if_neg (fun q => e (by omega)), if_neg (fun q => e q.2.2)]
        exact h.lo ha u
    · rw [u3_ap, if_neg (by omega)]
      show u2 Y 2 (5 * j) v 2 (5 * b + (3 - 2)) = _
      rw [u2_ap, if_neg (by omega)]
      exact h.lo ha u
    · rw [u3_ap, if_neg (by omega)]
      show u2 Y 2 (5 * j) v 2 (5 * b + (4 - 2)) = _
      rw [u2_ap, if_neg (by omega)]
      exact h.lo ha u
    · rw [u3_ap, if_neg (by omega)]
      show u2 Y 2 (5 * j) v 2 (5 * b + (5 - 2)) = _
      rw [u2_ap, if_neg (by omega)]
      exact h.lo ha u
    · rw [u3_ap, if_neg (by omega)]
      show u2 Y 2 (5 * j) v 2 (5 * b + (6 - 2)) = _
      rw [u2_ap, if_neg (by omega)]
      exact h.lo ha u
  · have : a = 9 ∨ a = 10 ∨ a = 11 := by omega
    rcases this with rfl | rfl | rfl
    · rw [u3_ap, if_neg (by omega)]; exact h.hi (a := 9) (b := b) (by decide) (by decide) u
    · rw [u3_ap, if_neg (by omega)]; exact h.hi (a := 10) (b := b) (by decide) (by decide) u
    · rw [u3_ap, if_neg (by omega)]; exact h.hi (a := 11) (b := b) (by decide) (by decide) u
  · have : b = 0 ∨ b = 1 ∨ b = 2 ∨ b = 3 ∨ b = 4 := by omega
    rcases this with rfl | rfl | rfl | rfl | rfl
    · rw [u3_ap, if_neg (by omega)]; exact h.tw u
    · rw [u3_ap, if_neg (by omega)]; exact h.tw u
    · rw [u3_ap, if_neg (by omega)]; exact h.tw u
    · rw [u3_ap, if_neg (by omega)]; exact h.tw u
    · rw [u3_ap, if_neg (by omega)]; exact h.tw u
theorem mes_r1 (h : ES n (MA Y S) (A r)) (hv : v = v') : ES n (MA (u2 Y 2 (5 * j + 1) v) S) (u3 A r 3 j v' r) := by
  refine ES.of (fun a b ha u => ?_) (fun a b ha ha2 u => ?_) (fun b u => ?_)
  · have : a = 0 ∨ a = 1 ∨ a = 2 ∨ a = 3 ∨ a = 4 ∨ a = 5 ∨ a = 6 := by omega
    rcases this with rfl | rfl | rfl | rfl | rfl | rfl | rfl
    · rw [u3_ap, if_neg (by omega)]; exact h.lo ha u
    · rw [u3_ap, if_neg (by omega)]; exact h.lo ha u
    · rw [u3_ap, if_neg (by omega)]
      show u2 Y 2 (5 * j + 1) v 2 (5 * b + (2 - 2)) = _
      rw [u2_ap, if_neg (by omega)]
      exact h.lo ha u
    · rw [u3_ap]
      show u2 Y 2 (5 * j + 1) v 2 (5 * b + (3 - 2)) = _
      rw [u2_ap]
      by_cases e : b = j
      · rw [if_pos ⟨rfl, by omega⟩, if_pos ⟨rfl, rfl, e⟩, hv]
      · rw [if_neg (fun q => e (by omega)), if_neg (fun q => e q.2.2)]
        exact h.lo ha u
    · rw [u3_ap, if_neg (by omega)]
      show u2 Y 2 (5 * j + 1) v 2 (5 * b + (4 - 2)) = _
      rw [u2_ap, if_neg (by omega)]
      exact h.lo ha u
    · rw [u3_ap, if_neg (by omega)]
      show u2 Y 2 (5 * j + 1) v 2 (5 * b + (5 - 2)) = _
      rw [u2_ap, if_neg (by omega)]
      exact h.lo ha u
    · rw [u3_ap, if_neg (by omega)]
      show u2 Y 2 (5 * j + 1) v 2 (5 * b + (6 - 2)) = _
      rw [u2_ap, if_neg (by omega)]
      exact h.lo ha u
  · have : a = 9 ∨ a = 10 ∨ a = 11 := by omega
    rcases this with rfl | rfl | rfl
    · rw [u3_ap, if_neg (by omega)]; exact h.hi (a := 9) (b := b) (by decide) (by decide) u
    · rw [u3_ap, if_neg (by omega)]; exact h.hi (a := 10) (b := b) (by decide) (by decide) u
    · rw [u3_ap, if_neg (by omega)]; exact h.hi (a := 11) (b := b) (by decide) (by decide) u
  · have : b = 0 ∨ b = 1 ∨ b = 2 ∨ b = 3 ∨ b = 4 := by omega
    rcases this with rfl | rfl | rfl | rfl | rfl
    · rw [u3_ap, if_neg (by omega)]; exact h.tw u
    · rw [u3_ap, if_neg (by omega)]; exact h.tw u
    · rw [u3_ap, if_neg (by omega)]; exact h.tw u
    · rw [u3_ap, if_neg (by omega)]; exact h.tw u
    · rw [u3_ap, if_neg (by omega)]; exact h.tw u
theorem mes_r2 (h : ES n (MA Y S) (A r)) (hv : v = v') : ES n (MA (u2 Y 2 (5 * j + 2) v) S) (u3 A r 4 j v' r) := by
  refine ES.of (fun a b ha u => ?_) (fun a b ha ha2 u => ?_) (fun b u => ?_)
  · have : a = 0 ∨ a = 1 ∨ a = 2 ∨ a = 3 ∨ a = 4 ∨ a = 5 ∨ a = 6 := by omega
    rcases this with rfl | rfl | rfl | rfl | rfl | rfl | rfl
    · rw [u3_ap, if_neg (by omega)]; exact h.lo ha u
    · rw [u3_ap, if_neg (by omega)]; exact h.lo ha u
    · rw [u3_ap, if_neg (by omega)]
      show u2 Y 2 (5 * j + 2) v 2 (5 * b + (2 - 2)) = _
      rw [u2_ap, if_neg (by omega)]
      exact h.lo ha u
    · rw [u3_ap, if_neg (by omega)]
      show u2 Y 2 (5 * j + 2) v 2 (5 * b + (3 - 2)) = _
      rw [u2_ap, if_neg (by omega)]
      exact h.lo ha u
    · rw [u3_ap]
      show u2 Y 2 (5 * j + 2) v 2 (5 * b + (4 - 2)) = _
      rw [u2_ap]
      by_cases e : b = j
      · rw [if_pos ⟨rfl, by omega⟩, if_pos ⟨rfl, rfl, e⟩, hv]
      · rw [if_neg (fun q => e (by omega)), if_neg (fun q => e q.2.2)]
        exact h.lo ha u
    · rw [u3_ap, if_neg (by omega)]
      show u2 Y 2 (5 * j + 2) v 2 (5 * b + (5 - 2)) = _
      rw [u2_ap, if_neg (by omega)]
      exact h.lo ha u
    · rw [u3_ap, if_neg (by omega)]
      show u2 Y 2 (5 * j + 2) v 2 (5 * b + (6 - 2)) = _
      rw [u2_ap, if_neg (by omega)]
      exact h.lo ha u
  · have : a = 9 ∨ a = 10 ∨ a = 11 := by omega
    rcases this with rfl | rfl | rfl
    · rw [u3_ap, if_neg (by omega)]; exact h.hi (a := 9) (b := b) (by decide) (by decide) u
    · rw [u3_ap, if_neg (by omega)]; exact h.hi (a := 10) (b := b) (by decide) (by decide) u
    · rw [u3_ap, if_neg (by omega)]; exact h.hi (a := 11) (b := b) (by decide) (by decide) u
  · have : b = 0 ∨ b = 1 ∨ b = 2 ∨ b = 3 ∨ b = 4 := by omega
    rcases this with rfl | rfl | rfl | rfl | rfl
    · rw [u3_ap, if_neg (by omega)]; exact h.tw u
    · rw [u3_ap, if_neg (by omega)]; exact h.tw u
    · rw [u3_ap, if_neg (by omega)]; exact h.tw u
    · rw [u3_ap, if_neg (by omega)]; exact h.tw u
    · rw [u3_ap, if_neg (by omega)]; exact h.tw u
theorem mes_r3 (h : ES n (MA Y S) (A r)) (hv : v = v') : ES n (MA (u2 Y 2 (5 * j + 3) v) S) (u3 A r 5 j v' r) := by
  refine ES.of (fun a b ha u => ?_) (fun a b ha ha2 u => ?_) (fun b u => ?_)
  · have : a = 0 ∨ a = 1 ∨ a = 2 ∨ a = 3 ∨ a = 4 ∨ a = 5 ∨ a = 6 := by omega
    rcases this with rfl | rfl | rfl | rfl | rfl | rfl | rfl
    · rw [u3_ap, if_neg (by omega)]; exact h.lo ha u
    · rw [u3_ap, if_neg (by omega)]; exact h.lo ha u
    · rw [u3_ap, if_neg (by omega)]
      show u2 Y 2 (5 * j + 3) v 2 (5 * b + (2 - 2)) = _
      rw [u2_ap, if_neg (by omega)]
      exact h.lo ha u
    · rw [u3_ap, if_neg (by omega)]
      show u2 Y 2 (5 * j + 3) v 2 (5 * b + (3 - 2)) = _
      rw [u2_ap, if_neg (by omega)]
      exact h.lo ha u
    · rw [u3_ap, if_neg (by omega)]
      show u2 Y 2 (5 * j + 3) v 2 (5 * b + (4 - 2)) = _
      rw [u2_ap, if_neg (by omega)]
      exact h.lo ha u
    · rw [u3_ap]
      show u2 Y 2 (5 * j + 3) v 2 (5 * b + (5 - 2)) = _
      rw [u2_ap]
      by_cases e : b = j
      · rw [if_pos ⟨rfl, by omega⟩, if_pos ⟨rfl, rfl, e⟩, hv]
      · rw [if_neg (fun q => e (by omega)), if_neg (fun q => e q.2.2)]
        exact h.lo ha u
    · rw [u3_ap, if_neg (by omega)]
      show u2 Y 2 (5 * j + 3) v 2 (5 * b + (6 - 2)) = _
      rw [u2_ap, if_neg (by omega)]
      exact h.lo ha u
  · have : a = 9 ∨ a = 10 ∨ a = 11 := by omega
    rcases this with rfl | rfl | rfl
    · rw [u3_ap, if_neg (by omega)]; exact h.hi (a := 9) (b := b) (by decide) (by decide) u
    · rw [u3_ap, if_neg (by omega)]; exact h.hi (a := 10) (b := b) (by decide) (by decide) u
    · rw [u3_ap, if_neg (by omega)]; exact h.hi (a := 11) (b := b) (by decide) (by decide) u
  · have : b = 0 ∨ b = 1 ∨ b = 2 ∨ b = 3 ∨ b = 4 := by omega
    rcases this with rfl | rfl | rfl | rfl | rfl
    · rw [u3_ap, if_neg (by omega)]; exact h.tw u
    · rw [u3_ap, if_neg (by omega)]; exact h.tw u
    · rw [u3_ap, if_neg (by omega)]; exact h.tw u
    · rw [u3_ap, if_neg (by omega)]; exact h.tw u
    · rw [u3_ap, if_neg (by omega)]; exact h.tw u
theorem mes_r4 (h : ES n (MA Y S) (A r)) (hv : v = v') : ES n (MA (u2 Y 2 (5 * j + 4) v) S) (u3 A r 6 j v' r) := by
  refine ES.of (fun a b ha u => ?_) (fun a b ha ha2 u => ?_) (fun b u => ?_)
  · have : a = 0 ∨ a = 1 ∨ a = 2 ∨ a = 3 ∨ a = 4 ∨ a = 5 ∨ a = 6 := by omega
    rcases this with rfl | rfl | rfl | rfl | rfl | rfl | rfl
    · rw [u3_ap, if_neg (by omega)]; exact h.lo ha u
    · rw [u3_ap, if_neg (by omega)]; exact h.lo ha u
    · rw [u3_ap, if_neg (by omega)]
      show u2 Y 2 (5 * j + 4) v 2 (5 * b + (2 - 2)) = _
      rw [u2_ap, if_neg (by omega)]
      exact h.lo ha u
    · rw [u3_ap, if_neg (by omega)]
      show u2 Y 2 (5 * j + 4) v 2 (5 * b + (3 - 2)) = _
      rw [u2_ap, if_neg (by omega)]
      exact h.lo ha u
    · rw [u3_ap, if_neg (by omega)]
      show u2 Y 2 (5 * j + 4) v 2 (5 * b + (4 - 2)) = _
      rw [u2_ap, if_neg (by omega)]
      exact h.lo ha u
    · rw [u3_ap, if_neg (by omega)]
      show u2 Y 2 (5 * j + 4) v 2 (5 * b + (5 - 2)) = _
      rw [u2_ap, if_neg (by omega)]
      exact h.lo ha u
    · rw [u3_ap]
      show u2 Y 2 (5 * j + 4) v 2 (5 * b + (6 - 2)) = _
      rw [u2_ap]
      by_cases e : b = j
      · rw [if_pos ⟨rfl, by omega⟩, if_pos ⟨rfl, rfl, e⟩, hv]
      · rw [if_neg (fun q => e (by omega)), if_neg (fun q => e q.2.2)]
        exact h.lo ha u
  · have : a = 9 ∨ a = 10 ∨ a = 11 := by omega
    rcases this with rfl | rfl | rfl
    · rw [u3_ap, if_neg (by omega)]; exact h.hi (a := 9) (b := b) (by decide) (by decide) u
    · rw [u3_ap, if_neg (by omega)]; exact h.hi (a := 10) (b := b) (by decide) (by decide) u
    · rw [u3_ap, if_neg (by omega)]; exact h.hi (a := 11) (b := b) (by decide) (by decide) u
  · have : b = 0 ∨ b = 1 ∨ b = 2 ∨ b = 3 ∨ b = 4 := by omega
    rcases this with rfl | rfl | rfl | rfl | rfl
    · rw [u3_ap, if_neg (by omega)]; exact h.tw u
    · rw [u3_ap, if_neg (by omega)]; exact h.tw u
    · rw [u3_ap, if_neg (by omega)]; exact h.tw u
    · rw [u3_ap, if_neg (by omega)]; exact h.tw u
    · rw [u3_ap, if_neg (by omega)]; exact h.tw u
theorem mes_s0 (h : ES n (MA Y S) (A r)) (hv : v = v') : ES n (MA Y (va_up S 0 v)) (u3 A r 12 0 v' r) := by
  refine ES.of (fun a b ha u => ?_) (fun a b ha ha2 u => ?_) (fun b u => ?_)
  · have : a = 0 ∨ a = 1 ∨ a = 2 ∨ a = 3 ∨ a = 4 ∨ a = 5 ∨ a = 6 := by omega
    rcases this with rfl | rfl | rfl | rfl | rfl | rfl | rfl
    · rw [u3_ap, if_neg (by omega)]; exact h.lo ha u
    · rw [u3_ap, if_neg (by omega)]; exact h.lo ha u
    · rw [u3_ap, if_neg (by omega)]; exact h.lo ha u
    · rw [u3_ap, if_neg (by omega)]; exact h.lo ha u
    · rw [u3_ap, if_neg (by omega)]; exact h.lo ha u
    · rw [u3_ap, if_neg (by omega)]; exact h.lo ha u
    · rw [u3_ap, if_neg (by omega)]; exact h.lo ha u
  · have : a = 9 ∨ a = 10 ∨ a = 11 := by omega
    rcases this with rfl | rfl | rfl
    · rw [u3_ap, if_neg (by omega)]; exact h.hi (a := 9) (b := b) (by decide) (by decide) u
    · rw [u3_ap, if_neg (by omega)]; exact h.hi (a := 10) (b := b) (by decide) (by decide) u
    · rw [u3_ap, if_neg (by omega)]; exact h.hi (a := 11) (b := b) (by decide) (by decide) u
  · have : b = 0 ∨ b = 1 ∨ b = 2 ∨ b = 3 ∨ b = 4 := by omega
    rcases this with rfl | rfl | rfl | rfl | rfl
    · rw [u3_ap, if_pos ⟨rfl, rfl, rfl⟩, ← hv]; rfl
    · rw [u3_ap, if_neg (by omega)]; exact h.tw u
    · rw [u3_ap, if_neg (by omega)]; exact h.tw u
    · rw [u3_ap, if_neg (by omega)]; exact h.tw u
    · rw [u3_ap, if_neg (by omega)]; exact h.tw u
theorem mes_s5 (h : ES n (MA Y S) (A r)) (hv : v = v') : ES n (MA Y (va_up S 5 v)) (u3 A r 12 1 v' r) := by
  refine ES.of (fun a b ha u => ?_) (fun a b ha ha2 u => ?_) (fun b u => ?_)
  · have : a = 0 ∨ a = 1 ∨ a = 2 ∨ a = 3 ∨ a = 4 ∨ a = 5 ∨ a = 6 := by omega
    rcases this with rfl | rfl | rfl | rfl | rfl | rfl | rfl
    · rw [u3_ap, if_neg (by omega)]; exact h.lo ha u
    · rw [u3_ap, if_neg (by omega)]; exact h.lo ha u
    · rw [u3_ap, if_neg (by omega)]; exact h.lo ha u
    · rw [u3_ap, if_neg (by omega)]; exact h.lo ha u
    · rw [u3_ap, if_neg (by omega)]; exact h.lo ha u
    · rw [u3_ap, if_neg (by omega)]; exact h.lo ha u
    · rw [u3_ap, if_neg (by omega)]; exact h.lo ha u
  · have : a = 9 ∨ a = 10 ∨ a = 11 := by omega
    rcases this with rfl | rfl | rfl
    · rw [u3_ap, if_neg (by omega)]; exact h.hi (a := 9) (b := b) (by decide) (by decide) u
    · rw [u3_ap, if_neg (by omega)]; exact h.hi (a := 10) (b := b) (by decide) (by decide) u
    · rw [u3_ap, if_neg (by omega)]; exact h.hi (a := 11) (b := b) (by decide) (by decide) u
  · have : b = 0 ∨ b = 1 ∨ b = 2 ∨ b = 3 ∨ b = 4 := by omega
    rcases this with rfl | rfl | rfl | rfl | rfl
    · rw [u3_ap, if_neg (by omega)]; exact h.tw u
    · rw [u3_ap, if_pos ⟨rfl, rfl, rfl⟩, ← hv]; rfl
    · rw [u3_ap, if_neg (by omega)]; exact h.tw u
    · rw [u3_ap, if_neg (by omega)]; exact h.tw u
    · rw [u3_ap, if_neg (by omega)]; exact h.tw u
theorem mes_s8 (h : ES n (MA Y S) (A r)) (hv : v = v') : ES n (MA Y (va_up S 8 v)) (u3 A r 12 2 v' r) := by
  refine ES.of (fun a b ha u => ?_) (fun a b ha ha2 u => ?_) (fun b u => ?_)
  · have : a = 0 ∨ a = 1 ∨ a = 2 ∨ a = 3 ∨ a = 4 ∨ a = 5 ∨ a = 6 := by omega
    rcases this with rfl | rfl | rfl | rfl | rfl | rfl | rfl
    · rw [u3_ap, if_neg (by omega)]; exact h.lo ha u
    · rw [u3_ap, if_neg (by omega)]; exact h.lo ha u
    · rw [u3_ap, if_neg (by omega)]; exact h.lo ha u
    · rw [u3_ap, if_neg (by omega)]; exact h.lo ha u
    · rw [u3_ap, if_neg (by omega)]; exact h.lo ha u
    · rw [u3_ap, if_neg (by omega)]; exact h.lo ha u
    · rw [u3_ap, if_neg (by omega)]; exact h.lo ha u
  · have : a = 9 ∨ a = 10 ∨ a = 11 := by omega
    rcases this with rfl | rfl | rfl
    · rw [u3_ap, if_neg (by omega)]; exact h.hi (a := 9) (b := b) (by decide) (by decide) u
    · rw [u3_ap, if_neg (by omega)]; exact h.hi (a := 10) (b := b) (by decide) (by decide) u
    · rw [u3_ap, if_neg (by omega)]; exact h.hi (a := 11) (b := b) (by decide) (by decide) u
  · have : b = 0 ∨ b = 1 ∨ b = 2 ∨ b = 3 ∨ b = 4 := by omega
    rcases this with rfl | rfl | rfl | rfl | rfl
    · rw [u3_ap, if_neg (by omega)]; exact h.tw u
    · rw [u3_ap, if_neg (by omega)]; exact h.tw u
    · rw [u3_ap, if_pos ⟨rfl, rfl, rfl⟩, ← hv]; rfl
    · rw [u3_ap, if_neg (by omega)]; exact h.tw u
    · rw [u3_ap, if_neg (by omega)]; exact h.tw u
theorem mes_s9 (h : ES n (MA Y S) (A r)) (hv : v = v') : ES n (MA Y (va_up S 9 v)) (u3 A r 12 3 v' r) := by
  refine ES.of (fun a b ha u => ?_) (fun a b ha ha2 u => ?_) (fun b u => ?_)
  · have : a = 0 ∨ a = 1 ∨ a = 2 ∨ a = 3 ∨ a = 4 ∨ a = 5 ∨ a = 6 := by omega
    rcases this with rfl | rfl | rfl | rfl | rfl | rfl | rfl
    · rw [u3_ap, if_neg (by omega)]; exact h.lo ha u
    · rw [u3_ap, if_neg (by omega)]; exact h.lo ha u
    · rw [u3_ap, if_neg (by omega)]; exact h.lo ha u
    · rw [u3_ap, if_neg (by omega)]; exact h.lo ha u
    · rw [u3_ap, if_neg (by omega)]; exact h.lo ha u
    · rw [u3_ap, if_neg (by omega)]; exact h.lo ha u
    · rw [u3_ap, if_neg (by omega)]; exact h.lo ha u
  · have : a = 9 ∨ a = 10 ∨ a = 11 := by omega
    rcases this with rfl | rfl | rfl
    · rw [u3_ap, if_neg (by omega)]; exact h.hi (a := 9) (b := b) (by decide) (by decide) u
    · rw [u3_ap, if_neg (by omega)]; exact h.hi (a := 10) (b := b) (by decide) (by decide) u
    · rw [u3_ap, if_neg (by omega)]; exact h.hi (a := 11) (b := b) (by decide) (by decide) u
  · have : b = 0 ∨ b = 1 ∨ b = 2 ∨ b = 3 ∨ b = 4 := by omega
    rcases this with rfl | rfl | rfl | rfl | rfl
    · rw [u3_ap, if_neg (by omega)]; exact h.tw u
    · rw [u3_ap, if_neg (by omega)]; exact h.tw u
    · rw [u3_ap, if_neg (by omega)]; exact h.tw u
    · rw [u3_ap, if_pos ⟨rfl, rfl, rfl⟩, ← hv]; rfl
    · rw [u3_ap, if_neg (by omega)]; exact h.tw u
theorem mes_s15 (h : ES n (MA Y S) (A r)) (hv : v = v') : ES n (MA Y (va_up S 15 v)) (u3 A r 12 4 v' r) := by
  refine ES.of (fun a b ha u => ?_) (fun a b ha ha2 u => ?_) (fun b u => ?_)
  · have : a = 0 ∨ a = 1 ∨ a = 2 ∨ a = 3 ∨ a = 4 ∨ a = 5 ∨ a = 6 := by omega
    rcases this with rfl | rfl | rfl | rfl | rfl | rfl | rfl
    · rw [u3_ap, if_neg (by omega)]; exact h.lo ha u
    · rw [u3_ap, if_neg (by omega)]; exact h.lo ha u
    · rw [u3_ap, if_neg (by omega)]; exact h.lo ha u
    · rw [u3_ap, if_neg (by omega)]; exact h.lo ha u
    · rw [u3_ap, if_neg (by omega)]; exact h.lo ha u
    · rw [u3_ap, if_neg (by omega)]; exact h.lo ha u
    · rw [u3_ap, if_neg (by omega)]; exact h.lo ha u
  · have : a = 9 ∨ a = 10 ∨ a = 11 := by omega
    rcases this with rfl | rfl | rfl
    · rw [u3_ap, if_neg (by omega)]; exact h.hi (a := 9) (b := b) (by decide) (by decide) u
    · rw [u3_ap, if_neg (by omega)]; exact h.hi (a := 10) (b := b) (by decide) (by decide) u
    · rw [u3_ap, if_neg (by omega)]; exact h.hi (a := 11) (b := b) (by decide) (by decide) u
  · have : b = 0 ∨ b = 1 ∨ b = 2 ∨ b = 3 ∨ b = 4 := by omega
    rcases this with rfl | rfl | rfl | rfl | rfl
    · rw [u3_ap, if_neg (by omega)]; exact h.tw u
    · rw [u3_ap, if_neg (by omega)]; exact h.tw u
    · rw [u3_ap, if_neg (by omega)]; exact h.tw u
    · rw [u3_ap, if_neg (by omega)]; exact h.tw u
    · rw [u3_ap, if_pos ⟨rfl, rfl, rfl⟩, ← hv]; rfl
end
