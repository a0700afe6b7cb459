/-! RULES OVER THE SMALL MACHINE (wip/whole/gen10.py) -/
theorem run_mono : ∀ (n d y pc : Nat) (L st : List Value) (M : mM) (x : Option Value × mM), run d n y pc L st M = some x → ∀ (n' d' : Nat), n ≤ n' → d ≤ d' → run d' n' y pc L st M = some x := by
  intro n
  induction n with
  | zero => intro d y pc L st M x h; cases h
  | succ n ih =>
    intro d y pc L st M x h n' d' hn hd
    obtain ⟨k, rfl⟩ : ∃ k, n' = k + 1 := ⟨n' - 1, by omega⟩
    have hk : n ≤ k := by omega
    rw [run] at h ⊢
    cases hdc : decode (bt y) pc with
    | error er => rw [hdc] at h; cases h
    | ok il =>
      obtain ⟨ins, len⟩ := il
      rw [hdc] at h
      dsimp only at h ⊢
      cases hst : stp y ins len pc L st M with
      | none => rw [hst] at h; cases h
      | some q =>
        rw [hst] at h
        match q, h with
        | .inl (pc', L', st', M'), h =>
          dsimp only at h ⊢
          exact ih _ _ _ _ _ _ _ h k d' hk hd
        | .inr (.inr v'), h => exact h
        | .inr (.inl (z, vs, rest)), h =>
          dsimp only at h ⊢
          match d, h, hd with
          | 0, h, _ => cases h
          | d0 + 1, h, hd =>
            obtain ⟨d1, rfl⟩ : ∃ d1, d' = d1 + 1 := ⟨d' - 1, by omega⟩
            dsimp only at h ⊢
            obtain ⟨hvs, h⟩ := gt_some h
            rw [if_pos hvs]
            cases hcal : run d0 n z 0 (ment z vs) [] M with
            | none => rw [hcal] at h; cases h
            | some w =>
              obtain ⟨v2, M1⟩ := w
              rw [hcal] at h
              dsimp only at h
              rw [ih _ _ _ _ _ _ _ hcal k d1 hk (by omega)]
              dsimp only
              exact ih _ _ _ _ _ _ _ h k (d1 + 1) hk hd
def Wp (d y pc : Nat) (L st : List Value) (M : mM) (Q : Option Value → mM → Prop) : Prop := ∃ (n : Nat) (v : Option Value) (M2 : mM), run d n y pc L st M = some (v, M2) ∧ Q v M2
/-- a method's run: its answer, and what it leaves -/
def Ex (d z : Nat) (vs : List Value) (M : mM) (v : Option Value) (M2 : mM) : Prop := ∃ n : Nat, run d n z 0 (ment z vs) [] M = some (v, M2)
theorem Ex.of {d z : Nat} {vs : List Value} {M : mM} {v : Option Value} {M2 : mM} (h : Wp d z 0 (ment z vs) [] M (fun v' M' => v' = v ∧ M' = M2)) : Ex d z vs M v M2 := by
  obtain ⟨n, v', M', h1, rfl, rfl⟩ := h
  exact ⟨n, h1⟩
theorem Ex.up {d d' z : Nat} {vs : List Value} {M : mM} {v : Option Value} {M2 : mM} (h : Ex d z vs M v M2) (hd : d ≤ d') : Ex d' z vs M v M2 := by
  obtain ⟨n, h1⟩ := h
  exact ⟨n, run_mono _ _ _ _ _ _ _ _ h1 n d' (Nat.le_refl _) hd⟩
theorem Wp.imp {d y pc : Nat} {L st : List Value} {M : mM} {Q Q' : Option Value → mM → Prop} (h : Wp d y pc L st M Q) (hq : ∀ v M2, Q v M2 → Q' v M2) : Wp d y pc L st M Q' := by
  obtain ⟨n, v, M2, h1, h2⟩ := h
  exact ⟨n, v, M2, h1, hq _ _ h2⟩
section RUL
variable {d y pc len : Nat} {L L' st : List Value} {M M' : mM} {Q : Option Value → mM → Prop} {ins : Instr}
theorem Wp.step {pc' : Nat} {st' : List Value} (hd : decode (bt y) pc = .ok (ins, len)) (hs : stp y ins len pc L st M = some (.inl (pc', L', st', M'))) (k : Wp d y pc' L' st' M' Q) : Wp d y pc L st M Q := by
  obtain ⟨n, v, M2, h1, h2⟩ := k
  refine ⟨n + 1, v, M2, ?_, h2⟩
  rw [run, hd]
  dsimp only
  rw [hs]
  exact h1
theorem Wp.ret {v : Option Value} (hd : decode (bt y) pc = .ok (ins, len)) (hs : stp y ins len pc L st M = some (.inr (.inr v))) (k : Q v M) : Wp d y pc L st M Q := by
  refine ⟨1, v, M, ?_, k⟩
  rw [run, hd]
  dsimp only
  rw [hs]
theorem Wp.call {z : Nat} {vs rest : List Value} {v : Option Value} (h1 : 1 ≤ d) (hd : decode (bt y) pc = .ok (ins, len)) (hs : stp y ins len pc L st M = some (.inr (.inl (z, vs, rest)))) (hv : (mexp vs).length ≤ mml z) (hc : Ex (d - 1) z vs M v M') (k : Wp d y (pc + 3) L (v.toList ++ rest) M' Q) : Wp d y pc L st M Q := by
  obtain ⟨d0, rfl⟩ : ∃ d0, d = d0 + 1 := ⟨d - 1, by omega⟩
  obtain ⟨n1, c1⟩ := hc
  obtain ⟨n2, v2, M2, c2, c3⟩ := k
  refine ⟨max n1 n2 + 1, v2, M2, ?_, c3⟩
  rw [run, hd]
  dsimp only
  rw [hs]
  dsimp only
  rw [if_pos hv, run_mono _ _ _ _ _ _ _ _ c1 (max n1 n2) d0 (Nat.le_max_left _ _) (by simp)]
  exact run_mono _ _ _ _ _ _ _ _ c2 (max n1 n2) _ (Nat.le_max_right _ _) (Nat.le_refl _)
theorem W_iload {i : Nat} {x : Int32} (hd : decode (bt y) pc = .ok (.iload i, 2)) (hl : L[i]? = some (.int x)) (k : Wp d y (pc + 2) L (.int x :: st) M Q) : Wp d y pc L (st) M Q := by
  refine Wp.step hd ?_ k
  simp only [stp, mldI, mnx, hl, if_true]
theorem W_iload_n {i : Fin 4} {x : Int32} (hd : decode (bt y) pc = .ok (.iload_n i, 1)) (hl : L[(i : Nat)]? = some (.int x)) (k : Wp d y (pc + 1) L (.int x :: st) M Q) : Wp d y pc L (st) M Q := by
  refine Wp.step hd ?_ k
  simp only [stp, mldI, mnx, hl, if_true]
theorem W_lload {i : Nat} {x : Int64} (hd : decode (bt y) pc = .ok (.lload i, 2)) (hl : L[i]? = some (.long x)) (k : Wp d y (pc + 2) L (.long x :: st) M Q) : Wp d y pc L (st) M Q := by
  refine Wp.step hd ?_ k
  simp only [stp, mldL, mnx, hl, if_true]
theorem W_lload_n {i : Fin 4} {x : Int64} (hd : decode (bt y) pc = .ok (.lload_n i, 1)) (hl : L[(i : Nat)]? = some (.long x)) (k : Wp d y (pc + 1) L (.long x :: st) M Q) : Wp d y pc L (st) M Q := by
  refine Wp.step hd ?_ k
  simp only [stp, mldL, mnx, hl, if_true]
theorem W_aload {i : Nat} {x : Nat} (hd : decode (bt y) pc = .ok (.aload i, 2)) (hl : L[i]? = some (.ref x)) (hx : x ≠ 1009) (k : Wp d y (pc + 2) L (.ref x :: st) M Q) : Wp d y pc L (st) M Q := by
  refine Wp.step hd ?_ k
  simp only [stp, mldA, mnx, hl, if_true, if_neg hx]
theorem W_aload_n {i : Fin 4} {x : Nat} (hd : decode (bt y) pc = .ok (.aload_n i, 1)) (hl : L[(i : Nat)]? = some (.ref x)) (hx : x ≠ 1009) (k : Wp d y (pc + 1) L (.ref x :: st) M Q) : Wp d y pc L (st) M Q := by
  refine Wp.step hd ?_ k
  simp only [stp, mldA, mnx, hl, if_true, if_neg hx]
theorem W_istore {i : Nat} {x : Int32} (hd : decode (bt y) pc = .ok (.istore i, 2)) (hm : mst1 L i (.int x) = some L') (k : Wp d y (pc + 2) L' (st) M Q) : Wp d y pc L (.int x :: st) M Q := by
  refine Wp.step hd ?_ k
  simp only [stp, mstI, mnx, hm, if_true]
theorem W_istore_n {i : Fin 4} {x : Int32} (hd : decode (bt y) pc = .ok (.istore_n i, 1)) (hm : mst1 L i (.int x) = some L') (k : Wp d y (pc + 1) L' (st) M Q) : Wp d y pc L (.int x :: st) M Q := by
  refine Wp.step hd ?_ k
  simp only [stp, mstI, mnx, hm, if_true]
theorem W_lstore {i : Nat} {x : Int64} (hd : decode (bt y) pc = .ok (.lstore i, 2)) (hm : mst2 L i (.long x) = some L') (k : Wp d y (pc + 2) L' (st) M Q) : Wp d y pc L (.long x :: st) M Q := by
  refine Wp.step hd ?_ k
  simp only [stp, mstL, mnx, hm, if_true]
theorem W_lstore_n {i : Fin 4} {x : Int64} (hd : decode (bt y) pc = .ok (.lstore_n i, 1)) (hm : mst2 L i (.long x) = some L') (k : Wp d y (pc + 1) L' (st) M Q) : Wp d y pc L (.long x :: st) M Q := by
  refine Wp.step hd ?_ k
  simp only [stp, mstL, mnx, hm, if_true]
theorem W_astore {i : Nat} {x : Nat} (hd : decode (bt y) pc = .ok (.astore i, 2)) (hx : x ≠ 1009) (hm : mst1 L i (.ref x) = some L') (k : Wp d y (pc + 2) L' (st) M Q) : Wp d y pc L (.ref x :: st) M Q := by
  refine Wp.step hd ?_ k
  simp only [stp, mstA, mnx, hm, if_true, if_neg hx]
theorem W_astore_n {i : Fin 4} {x : Nat} (hd : decode (bt y) pc = .ok (.astore_n i, 1)) (hx : x ≠ 1009) (hm : mst1 L i (.ref x) = some L') (k : Wp d y (pc + 1) L' (st) M Q) : Wp d y pc L (.ref x :: st) M Q := by
  refine Wp.step hd ?_ k
  simp only [stp, mstA, mnx, hm, if_true, if_neg hx]
theorem W_iconst {n : Int} {v : Int32} (hd : decode (bt y) pc = .ok (.iconst n, 1)) (hv : Int32.ofInt n = v) (k : Wp d y (pc + 1) L (.int v :: st) M Q) : Wp d y pc L (st) M Q := by
  subst hv
  refine Wp.step hd ?_ k
  simp only [stp, mnx, if_true]
theorem W_bipush {n : Int} {v : Int32} (hd : decode (bt y) pc = .ok (.bipush n, 2)) (hv : (Int8.ofInt n).toInt32 = v) (k : Wp d y (pc + 2) L (.int v :: st) M Q) : Wp d y pc L (st) M Q := by
  subst hv
  refine Wp.step hd ?_ k
  simp only [stp, mnx, if_true]
theorem W_sipush {n : Int} {v : Int32} (hd : decode (bt y) pc = .ok (.sipush n, 3)) (hv : (Int16.ofInt n).toInt32 = v) (k : Wp d y (pc + 3) L (.int v :: st) M Q) : Wp d y pc L (st) M Q := by
  subst hv
  refine Wp.step hd ?_ k
  simp only [stp, mnx, if_true]
theorem W_lconst {n : Fin 2} {v : Int64} (hd : decode (bt y) pc = .ok (.lconst n, 1)) (hv : Int64.ofNat (n : Nat) = v) (k : Wp d y (pc + 1) L (.long v :: st) M Q) : Wp d y pc L (st) M Q := by
  subst hv
  refine Wp.step hd ?_ k
  simp only [stp, mnx, if_true]
theorem W_iadd {x z : Int32} (hd : decode (bt y) pc = .ok (.iadd, 1)) (k : Wp d y (pc + 1) L (.int (x + z) :: st) M Q) : Wp d y pc L (.int z :: .int x :: st) M Q := by
  refine Wp.step hd ?_ k
  simp only [stp, mbin, mnx, if_true]
theorem W_isub {x z : Int32} (hd : decode (bt y) pc = .ok (.isub, 1)) (k : Wp d y (pc + 1) L (.int (x - z) :: st) M Q) : Wp d y pc L (.int z :: .int x :: st) M Q := by
  refine Wp.step hd ?_ k
  simp only [stp, mbin, mnx, if_true]
theorem W_imul {x z : Int32} (hd : decode (bt y) pc = .ok (.imul, 1)) (k : Wp d y (pc + 1) L (.int (x * z) :: st) M Q) : Wp d y pc L (.int z :: .int x :: st) M Q := by
  refine Wp.step hd ?_ k
  simp only [stp, mbin, mnx, if_true]
theorem W_iand {x z : Int32} (hd : decode (bt y) pc = .ok (.iand, 1)) (k : Wp d y (pc + 1) L (.int (x &&& z) :: st) M Q) : Wp d y pc L (.int z :: .int x :: st) M Q := by
  refine Wp.step hd ?_ k
  simp only [stp, mbin, mnx, if_true]
theorem W_ior {x z : Int32} (hd : decode (bt y) pc = .ok (.ior, 1)) (k : Wp d y (pc + 1) L (.int (x ||| z) :: st) M Q) : Wp d y pc L (.int z :: .int x :: st) M Q := by
  refine Wp.step hd ?_ k
  simp only [stp, mbin, mnx, if_true]
theorem W_ishl {x z : Int32} (hd : decode (bt y) pc = .ok (.ishl, 1)) (k : Wp d y (pc + 1) L (.int (x <<< (z &&& 31)) :: st) M Q) : Wp d y pc L (.int z :: .int x :: st) M Q := by
  refine Wp.step hd ?_ k
  simp only [stp, mbin, mnx, if_true]
theorem W_ishr {x z : Int32} (hd : decode (bt y) pc = .ok (.ishr, 1)) (k : Wp d y (pc + 1) L (.int (x >>> (z &&& 31)) :: st) M Q) : Wp d y pc L (.int z :: .int x :: st) M Q := by
  refine Wp.step hd ?_ k
  simp only [stp, mbin, mnx, if_true]
theorem W_idiv {x z : Int32} (hd : decode (bt y) pc = .ok (.idiv, 1)) (hz : ¬ z = 0) (k : Wp d y (pc + 1) L (.int (x / z) :: st) M Q) : Wp d y pc L (.int z :: .int x :: st) M Q := by
  refine Wp.step hd ?_ k
  simp only [stp, mbin, mnx, if_true, if_neg hz]
theorem W_irem {x z : Int32} (hd : decode (bt y) pc = .ok (.irem, 1)) (hz : ¬ z = 0) (k : Wp d y (pc + 1) L (.int (x - x / z * z) :: st) M Q) : Wp d y pc L (.int z :: .int x :: st) M Q := by
  refine Wp.step hd ?_ k
  simp only [stp, mbin, mnx, if_true, if_neg hz]
theorem W_ladd {x z : Int64} (hd : decode (bt y) pc = .ok (.ladd, 1)) (k : Wp d y (pc + 1) L (.long (x + z) :: st) M Q) : Wp d y pc L (.long z :: .long x :: st) M Q := by
  refine Wp.step hd ?_ k
  simp only [stp, mbinL, mnx, if_true]
theorem W_lmul {x z : Int64} (hd : decode (bt y) pc = .ok (.lmul, 1)) (k : Wp d y (pc + 1) L (.long (x * z) :: st) M Q) : Wp d y pc L (.long z :: .long x :: st) M Q := by
  refine Wp.step hd ?_ k
  simp only [stp, mbinL, mnx, if_true]
theorem W_ldiv {x z : Int64} (hd : decode (bt y) pc = .ok (.ldiv, 1)) (hz : ¬ z = 0) (k : Wp d y (pc + 1) L (.long (x / z) :: st) M Q) : Wp d y pc L (.long z :: .long x :: st) M Q := by
  refine Wp.step hd ?_ k
  simp only [stp, mbinL, mnx, if_true, if_neg hz]
theorem W_lrem {x z : Int64} (hd : decode (bt y) pc = .ok (.lrem, 1)) (hz : ¬ z = 0) (k : Wp d y (pc + 1) L (.long (x - x / z * z) :: st) M Q) : Wp d y pc L (.long z :: .long x :: st) M Q := by
  refine Wp.step hd ?_ k
  simp only [stp, mbinL, mnx, if_true, if_neg hz]
theorem W_ineg {x : Int32} (hd : decode (bt y) pc = .ok (.ineg, 1)) (k : Wp d y (pc + 1) L (.int (-x) :: st) M Q) : Wp d y pc L (.int x :: st) M Q := by
  refine Wp.step hd ?_ k
  simp only [stp, mun, mnx, if_true]
theorem W_i2l {x : Int32} (hd : decode (bt y) pc = .ok (.i2l, 1)) (k : Wp d y (pc + 1) L (.long x.toInt64 :: st) M Q) : Wp d y pc L (.int x :: st) M Q := by
  refine Wp.step hd ?_ k
  simp only [stp, mun, mnx, if_true]
theorem W_i2b {x : Int32} (hd : decode (bt y) pc = .ok (.i2b, 1)) (k : Wp d y (pc + 1) L (.int x.toInt8.toInt32 :: st) M Q) : Wp d y pc L (.int x :: st) M Q := by
  refine Wp.step hd ?_ k
  simp only [stp, mun, mnx, if_true]
theorem W_i2s {x : Int32} (hd : decode (bt y) pc = .ok (.i2s, 1)) (k : Wp d y (pc + 1) L (.int x.toInt16.toInt32 :: st) M Q) : Wp d y pc L (.int x :: st) M Q := by
  refine Wp.step hd ?_ k
  simp only [stp, mun, mnx, if_true]
theorem W_i2c {x : Int32} (hd : decode (bt y) pc = .ok (.i2c, 1)) (k : Wp d y (pc + 1) L (.int (x.toUInt32 % 65536).toInt32 :: st) M Q) : Wp d y pc L (.int x :: st) M Q := by
  refine Wp.step hd ?_ k
  simp only [stp, mun, mnx, if_true]
theorem W_l2i {x : Int64} (hd : decode (bt y) pc = .ok (.l2i, 1)) (k : Wp d y (pc + 1) L (.int x.toInt32 :: st) M Q) : Wp d y pc L (.long x :: st) M Q := by
  refine Wp.step hd ?_ k
  simp only [stp, mnx, if_true]
theorem W_lcmp {x z : Int64} (hd : decode (bt y) pc = .ok (.lcmp, 1)) (k : Wp d y (pc + 1) L (.int (lg_cmp x z) :: st) M Q) : Wp d y pc L (.long z :: .long x :: st) M Q := by
  refine Wp.step hd ?_ k
  simp only [stp, mnx, if_true]
theorem W_dup {v : Value} (hd : decode (bt y) pc = .ok (.dup, 1)) (hv : v.category = 1) (k : Wp d y (pc + 1) L (v :: v :: st) M Q) : Wp d y pc L (v :: st) M Q := by
  refine Wp.step hd ?_ k
  simp only [stp, mnx, if_true, if_pos hv]
theorem W_pop {v : Value} (hd : decode (bt y) pc = .ok (.pop, 1)) (hv : v.category = 1) (k : Wp d y (pc + 1) L (st) M Q) : Wp d y pc L (v :: st) M Q := by
  refine Wp.step hd ?_ k
  simp only [stp, mnx, if_true, if_pos hv]
theorem W_dup2 {v w : Value} (hd : decode (bt y) pc = .ok (.dup2, 1)) (hv : v.category = 1) (hw : w.category = 1) (k : Wp d y (pc + 1) L (v :: w :: v :: w :: st) M Q) : Wp d y pc L (v :: w :: st) M Q := by
  refine Wp.step hd ?_ k
  simp only [stp, mnx, if_true, hv, hw, and_self]
theorem W_iinc {i : Nat} {n : Int} {x v : Int32} (hd : decode (bt y) pc = .ok (.iinc i n, 3)) (hl : L[i]? = some (.int x)) (hv : Int32.ofInt n = v) (hm : mst1 L i (.int (x + v)) = some L') (k : Wp d y (pc + 3) L' (st) M Q) : Wp d y pc L (st) M Q := by
  subst hv
  refine Wp.step hd ?_ k
  simp only [stp, mnx, hl, hm, if_true]
theorem W_if_eq {x : Int32} {off : Int} {tgt : Nat} (hd : decode (bt y) pc = .ok (.ifCond .eq off, 3)) (ht : (pc : Int) + off = (tgt : Int)) (kt : x = 0 → Wp d y tgt L st M Q) (kf : ¬ x = 0 → Wp d y (pc + 3) L st M Q) : Wp d y pc L (.int x :: st) M Q := by
  have h0 : 0 ≤ (pc : Int) + off := by rw [ht]; exact Int.natCast_nonneg _
  have h1 : ((pc : Int) + off).toNat = tgt := by rw [ht]; exact Int.toNat_natCast _
  by_cases h : x = 0
  · refine Wp.step (pc' := tgt) hd ?_ (kt h)
    simp only [stp, mnx, mcd, h, h0, h1, and_self, if_true, decide_true, decide_false, not_false_eq_true]
  · refine Wp.step (pc' := pc + 3) hd ?_ (kf h)
    simp only [stp, mnx, mcd, h, h0, and_self, if_true, if_false, decide_false, decide_true, not_true_eq_false, not_false_eq_true, Bool.false_eq_true]
theorem W_if_ne {x : Int32} {off : Int} {tgt : Nat} (hd : decode (bt y) pc = .ok (.ifCond .ne off, 3)) (ht : (pc : Int) + off = (tgt : Int)) (kt : ¬ x = 0 → Wp d y tgt L st M Q) (kf : x = 0 → Wp d y (pc + 3) L st M Q) : Wp d y pc L (.int x :: st) M Q := by
  have h0 : 0 ≤ (pc : Int) + off := by rw [ht]; exact Int.natCast_nonneg _
  have h1 : ((pc : Int) + off).toNat = tgt := by rw [ht]; exact Int.toNat_natCast _
  by_cases h : ¬ x = 0
  · refine Wp.step (pc' := tgt) hd ?_ (kt h)
    simp only [stp, mnx, mcd, h, h0, h1, and_self, if_true, decide_true, decide_false, not_false_eq_true]
  · refine Wp.step (pc' := pc + 3) hd ?_ (kf (Classical.not_not.mp h))
    simp only [stp, mnx, mcd, h, h0, and_self, if_true, if_false, decide_false, decide_true, not_true_eq_false, not_false_eq_true, Bool.false_eq_true]
theorem W_if_lt {x : Int32} {off : Int} {tgt : Nat} (hd : decode (bt y) pc = .ok (.ifCond .lt off, 3)) (ht : (pc : Int) + off = (tgt : Int)) (kt : x < 0 → Wp d y tgt L st M Q) (kf : ¬ x < 0 → Wp d y (pc + 3) L st M Q) : Wp d y pc L (.int x :: st) M Q := by
  have h0 : 0 ≤ (pc : Int) + off := by rw [ht]; exact Int.natCast_nonneg _
  have h1 : ((pc : Int) + off).toNat = tgt := by rw [ht]; exact Int.toNat_natCast _
  by_cases h : x < 0
  · refine Wp.step (pc' := tgt) hd ?_ (kt h)
    simp only [stp, mnx, mcd, h, h0, h1, and_self, if_true, decide_true, decide_false, not_false_eq_true]
  · refine Wp.step (pc' := pc + 3) hd ?_ (kf h)
    simp only [stp, mnx, mcd, h, h0, and_self, if_true, if_false, decide_false, decide_true, not_true_eq_false, not_false_eq_true, Bool.false_eq_true]
theorem W_if_ge {x : Int32} {off : Int} {tgt : Nat} (hd : decode (bt y) pc = .ok (.ifCond .ge off, 3)) (ht : (pc : Int) + off = (tgt : Int)) (kt : 0 ≤ x → Wp d y tgt L st M Q) (kf : ¬ 0 ≤ x → Wp d y (pc + 3) L st M Q) : Wp d y pc L (.int x :: st) M Q := by
  have h0 : 0 ≤ (pc : Int) + off := by rw [ht]; exact Int.natCast_nonneg _
  have h1 : ((pc : Int) + off).toNat = tgt := by rw [ht]; exact Int.toNat_natCast _
  by_cases h : 0 ≤ x
  · refine Wp.step (pc' := tgt) hd ?_ (kt h)
    simp only [stp, mnx, mcd, h, h0, h1, and_self, if_true, decide_true, decide_false, not_false_eq_true]
  · refine Wp.step (pc' := pc + 3) hd ?_ (kf h)
    simp only [stp, mnx, mcd, h, h0, and_self, if_true, if_false, decide_false, decide_true, not_true_eq_false, not_false_eq_true, Bool.false_eq_true]
theorem W_if_gt {x : Int32} {off : Int} {tgt : Nat} (hd : decode (bt y) pc = .ok (.ifCond .gt off, 3)) (ht : (pc : Int) + off = (tgt : Int)) (kt : 0 < x → Wp d y tgt L st M Q) (kf : ¬ 0 < x → Wp d y (pc + 3) L st M Q) : Wp d y pc L (.int x :: st) M Q := by
  have h0 : 0 ≤ (pc : Int) + off := by rw [ht]; exact Int.natCast_nonneg _
  have h1 : ((pc : Int) + off).toNat = tgt := by rw [ht]; exact Int.toNat_natCast _
  by_cases h : 0 < x
  · refine Wp.step (pc' := tgt) hd ?_ (kt h)
    simp only [stp, mnx, mcd, h, h0, h1, and_self, if_true, decide_true, decide_false, not_false_eq_true]
  · refine Wp.step (pc' := pc + 3) hd ?_ (kf h)
    simp only [stp, mnx, mcd, h, h0, and_self, if_true, if_false, decide_false, decide_true, not_true_eq_false, not_false_eq_true, Bool.false_eq_true]
theorem W_if_le {x : Int32} {off : Int} {tgt : Nat} (hd : decode (bt y) pc = .ok (.ifCond .le off, 3)) (ht : (pc : Int) + off = (tgt : Int)) (kt : x ≤ 0 → Wp d y tgt L st M Q) (kf : ¬ x ≤ 0 → Wp d y (pc + 3) L st M Q) : Wp d y pc L (.int x :: st) M Q := by
  have h0 : 0 ≤ (pc : Int) + off := by rw [ht]; exact Int.natCast_nonneg _
  have h1 : ((pc : Int) + off).toNat = tgt := by rw [ht]; exact Int.toNat_natCast _
  by_cases h : x ≤ 0
  · refine Wp.step (pc' := tgt) hd ?_ (kt h)
    simp only [stp, mnx, mcd, h, h0, h1, and_self, if_true, decide_true, decide_false, not_false_eq_true]
  · refine Wp.step (pc' := pc + 3) hd ?_ (kf h)
    simp only [stp, mnx, mcd, h, h0, and_self, if_true, if_false, decide_false, decide_true, not_true_eq_false, not_false_eq_true, Bool.false_eq_true]
theorem W_icmp_eq {x z : Int32} {off : Int} {tgt : Nat} (hd : decode (bt y) pc = .ok (.if_icmp .eq off, 3)) (ht : (pc : Int) + off = (tgt : Int)) (kt : x = z → Wp d y tgt L st M Q) (kf : ¬ x = z → Wp d y (pc + 3) L st M Q) : Wp d y pc L (.int z :: .int x :: st) M Q := by
  have h0 : 0 ≤ (pc : Int) + off := by rw [ht]; exact Int.natCast_nonneg _
  have h1 : ((pc : Int) + off).toNat = tgt := by rw [ht]; exact Int.toNat_natCast _
  by_cases h : x = z
  · refine Wp.step (pc' := tgt) hd ?_ (kt h)
    simp only [stp, mnx, mcd, h, h0, h1, and_self, if_true, decide_true, decide_false, not_false_eq_true]
  · refine Wp.step (pc' := pc + 3) hd ?_ (kf h)
    simp only [stp, mnx, mcd, h, h0, and_self, if_true, if_false, decide_false, decide_true, not_true_eq_false, not_false_eq_true, Bool.false_eq_true]
theorem W_icmp_ne {x z : Int32} {off : Int} {tgt : Nat} (hd : decode (bt y) pc = .ok (.if_icmp .ne off, 3)) (ht : (pc : Int) + off = (tgt : Int)) (kt : ¬ x = z → Wp d y tgt L st M Q) (kf : x = z → Wp d y (pc + 3) L st M Q) : Wp d y pc L (.int z :: .int x :: st) M Q := by
  have h0 : 0 ≤ (pc : Int) + off := by rw [ht]; exact Int.natCast_nonneg _
  have h1 : ((pc : Int) + off).toNat = tgt := by rw [ht]; exact Int.toNat_natCast _
  by_cases h : ¬ x = z
  · refine Wp.step (pc' := tgt) hd ?_ (kt h)
    simp only [stp, mnx, mcd, h, h0, h1, and_self, if_true, decide_true, decide_false, not_false_eq_true]
  · refine Wp.step (pc' := pc + 3) hd ?_ (kf (Classical.not_not.mp h))
    simp only [stp, mnx, mcd, h, h0, and_self, if_true, if_false, decide_false, decide_true, not_true_eq_false, not_false_eq_true, Bool.false_eq_true]
theorem W_icmp_lt {x z : Int32} {off : Int} {tgt : Nat} (hd : decode (bt y) pc = .ok (.if_icmp .lt off, 3)) (ht : (pc : Int) + off = (tgt : Int)) (kt : x < z → Wp d y tgt L st M Q) (kf : ¬ x < z → Wp d y (pc + 3) L st M Q) : Wp d y pc L (.int z :: .int x :: st) M Q := by
  have h0 : 0 ≤ (pc : Int) + off := by rw [ht]; exact Int.natCast_nonneg _
  have h1 : ((pc : Int) + off).toNat = tgt := by rw [ht]; exact Int.toNat_natCast _
  by_cases h : x < z
  · refine Wp.step (pc' := tgt) hd ?_ (kt h)
    simp only [stp, mnx, mcd, h, h0, h1, and_self, if_true, decide_true, decide_false, not_false_eq_true]
  · refine Wp.step (pc' := pc + 3) hd ?_ (kf h)
    simp only [stp, mnx, mcd, h, h0, and_self, if_true, if_false, decide_false, decide_true, not_true_eq_false, not_false_eq_true, Bool.false_eq_true]
theorem W_icmp_ge {x z : Int32} {off : Int} {tgt : Nat} (hd : decode (bt y) pc = .ok (.if_icmp .ge off, 3)) (ht : (pc : Int) + off = (tgt : Int)) (kt : z ≤ x → Wp d y tgt L st M Q) (kf : ¬ z ≤ x → Wp d y (pc + 3) L st M Q) : Wp d y pc L (.int z :: .int x :: st) M Q := by
  have h0 : 0 ≤ (pc : Int) + off := by rw [ht]; exact Int.natCast_nonneg _
  have h1 : ((pc : Int) + off).toNat = tgt := by rw [ht]; exact Int.toNat_natCast _
  by_cases h : z ≤ x
  · refine Wp.step (pc' := tgt) hd ?_ (kt h)
    simp only [stp, mnx, mcd, h, h0, h1, and_self, if_true, decide_true, decide_false, not_false_eq_true]
  · refine Wp.step (pc' := pc + 3) hd ?_ (kf h)
    simp only [stp, mnx, mcd, h, h0, and_self, if_true, if_false, decide_false, decide_true, not_true_eq_false, not_false_eq_true, Bool.false_eq_true]
theorem W_icmp_gt {x z : Int32} {off : Int} {tgt : Nat} (hd : decode (bt y) pc = .ok (.if_icmp .gt off, 3)) (ht : (pc : Int) + off = (tgt : Int)) (kt : z < x → Wp d y tgt L st M Q) (kf : ¬ z < x → Wp d y (pc + 3) L st M Q) : Wp d y pc L (.int z :: .int x :: st) M Q := by
  have h0 : 0 ≤ (pc : Int) + off := by rw [ht]; exact Int.natCast_nonneg _
  have h1 : ((pc : Int) + off).toNat = tgt := by rw [ht]; exact Int.toNat_natCast _
  by_cases h : z < x
  · refine Wp.step (pc' := tgt) hd ?_ (kt h)
    simp only [stp, mnx, mcd, h, h0, h1, and_self, if_true, decide_true, decide_false, not_false_eq_true]
  · refine Wp.step (pc' := pc + 3) hd ?_ (kf h)
    simp only [stp, mnx, mcd, h, h0, and_self, if_true, if_false, decide_false, decide_true, not_true_eq_false, not_false_eq_true, Bool.false_eq_true]
theorem W_icmp_le {x z : Int32} {off : Int} {tgt : Nat} (hd : decode (bt y) pc = .ok (.if_icmp .le off, 3)) (ht : (pc : Int) + off = (tgt : Int)) (kt : x ≤ z → Wp d y tgt L st M Q) (kf : ¬ x ≤ z → Wp d y (pc + 3) L st M Q) : Wp d y pc L (.int z :: .int x :: st) M Q := by
  have h0 : 0 ≤ (pc : Int) + off := by rw [ht]; exact Int.natCast_nonneg _
  have h1 : ((pc : Int) + off).toNat = tgt := by rw [ht]; exact Int.toNat_natCast _
  by_cases h : x ≤ z
  · refine Wp.step (pc' := tgt) hd ?_ (kt h)
    simp only [stp, mnx, mcd, h, h0, h1, and_self, if_true, decide_true, decide_false, not_false_eq_true]
  · refine Wp.step (pc' := pc + 3) hd ?_ (kf h)
    simp only [stp, mnx, mcd, h, h0, and_self, if_true, if_false, decide_false, decide_true, not_true_eq_false, not_false_eq_true, Bool.false_eq_true]
theorem W_goto {off : Int} {tgt : Nat} (hd : decode (bt y) pc = .ok (.goto off, 3)) (ht : (pc : Int) + off = (tgt : Int)) (k : Wp d y tgt L st M Q) : Wp d y pc L st M Q := by
  have h0 : 0 ≤ (pc : Int) + off := by rw [ht]; exact Int.natCast_nonneg _
  have h1 : ((pc : Int) + off).toNat = tgt := by rw [ht]; exact Int.toNat_natCast _
  refine Wp.step hd ?_ k
  simp only [stp, mjmp, mnx, h0, h1, if_true]
theorem W_table {q lo hi off : Int} {os : Array Int} {tgt : Nat} {x : Int32} (hd : decode (bt y) pc = .ok (.tableswitch q lo hi os, len)) (ho : (if x.toInt < lo ∨ hi < x.toInt then some q else os[(x.toInt - lo).toNat]?) = some off) (ht : (pc : Int) + off = (tgt : Int)) (k : Wp d y tgt L st M Q) : Wp d y pc L (.int x :: st) M Q := by
  have h0 : 0 ≤ (pc : Int) + off := by rw [ht]; exact Int.natCast_nonneg _
  have h1 : ((pc : Int) + off).toNat = tgt := by rw [ht]; exact Int.toNat_natCast _
  refine Wp.step hd ?_ k
  simp only [stp, msw, mjmp, mnx, ho, h0, h1, if_true]
theorem W_lookup {q off : Int} {ps : Array (Int × Int)} {tgt : Nat} {x : Int32} (hd : decode (bt y) pc = .ok (.lookupswitch q ps, len)) (hp : (ps.toList.zip (ps.toList.drop 1)).all (fun (a, next) => a.1 < next.1) = true) (ho : Op.lookupswitch.offset ps.toList q x.toInt = off) (ht : (pc : Int) + off = (tgt : Int)) (k : Wp d y tgt L st M Q) : Wp d y pc L (.int x :: st) M Q := by
  have h0 : 0 ≤ (pc : Int) + off := by rw [ht]; exact Int.natCast_nonneg _
  have h1 : ((pc : Int) + off).toNat = tgt := by rw [ht]; exact Int.toNat_natCast _
  refine Wp.step hd ?_ k
  simp only [stp, msw, mjmp, mnx, hp, ho, h0, h1, if_true]
theorem W_ldcI {c i a b : Nat} {v : Int32} (hd : decode (bt y) pc = .ok (.ldc i, 2)) (ho : mow y = c) (hl : lk c i = (12, a, b)) (hv : Int32.ofNat a = v) (k : Wp d y (pc + 2) L (.int v :: st) M Q) : Wp d y pc L st M Q := by
  subst ho; subst hv
  refine Wp.step hd ?_ k
  simp only [stp, hl, mnx, if_true]
theorem W_ldcwI {c i a b : Nat} {v : Int32} (hd : decode (bt y) pc = .ok (.ldc_w i, 3)) (ho : mow y = c) (hl : lk c i = (12, a, b)) (hv : Int32.ofNat a = v) (k : Wp d y (pc + 3) L (.int v :: st) M Q) : Wp d y pc L st M Q := by
  subst ho; subst hv
  refine Wp.step hd ?_ k
  simp only [stp, hl, mnx, if_true]
theorem W_ldcS {c i a b : Nat} (hd : decode (bt y) pc = .ok (.ldc i, 2)) (ho : mow y = c) (hl : lk c i = (14, a, b)) (k : Wp d y (pc + 2) L (.ref a :: st) M Q) : Wp d y pc L st M Q := by
  subst ho
  refine Wp.step hd ?_ k
  simp only [stp, hl, mnx, if_true]
theorem W_ldc2 {c i a b : Nat} {v : Int64} (hd : decode (bt y) pc = .ok (.ldc2_w i, 3)) (ho : mow y = c) (hl : lk c i = (13, a, b)) (hv : Int64.ofNat a = v) (k : Wp d y (pc + 3) L (.long v :: st) M Q) : Wp d y pc L st M Q := by
  subst ho; subst hv
  refine Wp.step hd ?_ k
  simp only [stp, hl, mnx, if_true]
theorem W_getf {c i a b q : Nat} {fs : List Value} {v : Value} (hd : decode (bt y) pc = .ok (.getfield i, 3)) (ho : mow y = c) (hl : lk c i = (1, a, b)) (hc : M.2 q = .inr (.inr (a, fs))) (hv : fs[b]? = some v) (k : Wp d y (pc + 3) L (v :: st) M Q) : Wp d y pc L (.ref q :: st) M Q := by
  subst ho
  refine Wp.step hd ?_ k
  simp only [stp, hl, mget, hc, hv, mnx, if_true]
theorem W_getfS {c i a b q : Nat} {fs : List Value} {v : Value} (hd : decode (bt y) pc = .ok (.getfield i, 3)) (ho : mow y = c) (hl : lk c i = (16, a, b)) (hc : M.2 q = .inr (.inr (8, fs))) (hv : fs[a]? = some v) (k : Wp d y (pc + 3) L (v :: st) M Q) : Wp d y pc L (.ref q :: st) M Q := by
  subst ho
  refine Wp.step hd ?_ k
  simp only [stp, hl, mget, hc, hv, mnx, if_true]
theorem W_putf {c i a b q : Nat} {fs : List Value} {v : Value} (hd : decode (bt y) pc = .ok (.putfield i, 3)) (ho : mow y = c) (hl : lk c i = (1, a, b)) (hc : M.2 q = .inr (.inr (a, fs))) (hb : b < fs.length) (hm : mput y a b v = true) (he : mset M q (.inr (.inr (a, fs.set b v))) = M') (k : Wp d y (pc + 3) L st M' Q) : Wp d y pc L (v :: .ref q :: st) M Q := by
  subst ho; subst he
  refine Wp.step hd ?_ k
  simp only [stp, hl, mputf, hc, hb, hm, mnx, if_true, and_self]
theorem W_gets {c i a b : Nat} {v : Value} (hd : decode (bt y) pc = .ok (.getstatic i, 3)) (ho : mow y = c) (hl : lk c i = (3, a, b)) (hv : mstv a = v) (k : Wp d y (pc + 3) L (v :: st) M Q) : Wp d y pc L st M Q := by
  subst ho; subst hv
  refine Wp.step hd ?_ k
  simp only [stp, hl, mnx, if_true]
theorem W_iald {q t n : Nat} {f : Nat → Int32} {j v : Int32} (hd : decode (bt y) pc = .ok (.iaload, 1)) (hc : M.2 q = .inl (t, n, f)) (ht : t ≤ 1) (hj : vp_in j n) (hv : f j.toNatClampNeg = v) (k : Wp d y (pc + 1) L (.int v :: st) M Q) : Wp d y pc L (.int j :: .ref q :: st) M Q := by
  subst hv
  refine Wp.step hd ?_ k
  have hj' : ¬ (j < 0 ∨ n ≤ j.toNatClampNeg) := hj
  simp only [stp, mald, hc, mnx, if_true, ht, hj', decide_true, not_false_eq_true, and_self]
theorem W_bald {q n : Nat} {f : Nat → Int32} {j v : Int32} (hd : decode (bt y) pc = .ok (.baload, 1)) (hc : M.2 q = .inl (2, n, f)) (hj : vp_in j n) (hv : f j.toNatClampNeg = v) (k : Wp d y (pc + 1) L (.int v :: st) M Q) : Wp d y pc L (.int j :: .ref q :: st) M Q := by
  subst hv
  refine Wp.step hd ?_ k
  have hj' : ¬ (j < 0 ∨ n ≤ j.toNatClampNeg) := hj
  simp only [stp, mald, hc, mnx, if_true, hj', decide_true, not_false_eq_true, and_self]
theorem W_iast {q n : Nat} {f : Nat → Int32} {j x : Int32} (hd : decode (bt y) pc = .ok (.iastore, 1)) (hc : M.2 q = .inl (0, n, f)) (hj : vp_in j n) (he : mset M q (.inl (0, n, upd f j.toNatClampNeg x)) = M') (k : Wp d y (pc + 1) L st M' Q) : Wp d y pc L (.int x :: .int j :: .ref q :: st) M Q := by
  subst he
  refine Wp.step hd ?_ k
  have hj' : ¬ (j < 0 ∨ n ≤ j.toNatClampNeg) := hj
  simp only [stp, mast, hc, mnx, if_true, hj', not_false_eq_true, and_self]
theorem W_aald {q t n : Nat} {f : Nat → Option Nat} {j : Int32} {v : Value} (hd : decode (bt y) pc = .ok (.aaload, 1)) (hc : M.2 q = .inr (.inl (t, n, f))) (hj : vp_in j n) (hv : mref (f j.toNatClampNeg) = v) (k : Wp d y (pc + 1) L (v :: st) M Q) : Wp d y pc L (.int j :: .ref q :: st) M Q := by
  subst hv
  refine Wp.step hd ?_ k
  have hj' : ¬ (j < 0 ∨ n ≤ j.toNatClampNeg) := hj
  simp only [stp, mald_q, hc, mnx, if_true, hj', not_false_eq_true]
theorem W_aast {q q2 t n : Nat} {f : Nat → Option Nat} {fs : List Value} {j : Int32} (hd : decode (bt y) pc = .ok (.aastore, 1)) (hc : M.2 q = .inr (.inl (t, n, f))) (hc2 : M.2 q2 = .inr (.inr (t, fs))) (hj : vp_in j n) (he : mset M q (.inr (.inl (t, n, va_up f j.toNatClampNeg (some q2)))) = M') (k : Wp d y (pc + 1) L st M' Q) : Wp d y pc L (.ref q2 :: .int j :: .ref q :: st) M Q := by
  subst he
  refine Wp.step hd ?_ k
  have hj' : ¬ (j < 0 ∨ n ≤ j.toNatClampNeg) := hj
  simp only [stp, mast_q, hc, hc2, mnx, if_true, hj', not_false_eq_true, and_self]
theorem W_alen {q n : Nat} {v : Int32} (hd : decode (bt y) pc = .ok (.arraylength, 1)) (hc : mlen (M.2 q) = some n) (hv : Int32.ofNat n = v) (k : Wp d y (pc + 1) L (.int v :: st) M Q) : Wp d y pc L (.ref q :: st) M Q := by
  subst hv
  refine Wp.step hd ?_ k
  simp only [stp, hc, mnx, if_true]
theorem W_newI {n : Int32} (hd : decode (bt y) pc = .ok (.newarray .int, 2)) (h1 : ¬ n < 0) (h2 : n.toNatClampNeg ≤ 1200) (h3 : M.1 < 1000) (he : mpush M (.inl (0, n.toNatClampNeg, fun _ => 0)) = M') (k : Wp d y (pc + 2) L (.ref M.1 :: st) M' Q) : Wp d y pc L (.int n :: st) M Q := by
  subst he
  refine Wp.step hd ?_ k
  simp only [stp, h1, h2, h3, mnx, if_true, not_false_eq_true, and_self]
theorem W_newA {c i a b : Nat} {n : Int32} (hd : decode (bt y) pc = .ok (.anewarray i, 3)) (ho : mow y = c) (hl : lk c i = (11, a, b)) (h1 : ¬ n < 0) (h2 : n.toNatClampNeg ≤ 1200) (h3 : M.1 < 1000) (he : mpush M (.inr (.inl (a, n.toNatClampNeg, fun _ => none))) = M') (k : Wp d y (pc + 3) L (.ref M.1 :: st) M' Q) : Wp d y pc L (.int n :: st) M Q := by
  subst ho; subst he
  refine Wp.step hd ?_ k
  simp only [stp, hl, h1, h2, h3, mnx, if_true, not_false_eq_true, and_self]
theorem W_new {c i a b : Nat} (hd : decode (bt y) pc = .ok (.new i, 3)) (ho : mow y = c) (hl : lk c (i + 65536) = (10, a, b)) (h3 : M.1 < 1000) (he : mpush M (.inr (.inr (a, (List.range (nNN a)).map (fun j => defaultValue (nYY a j))))) = M') (k : Wp d y (pc + 3) L (.ref M.1 :: st) M' Q) : Wp d y pc L st M Q := by
  subst ho; subst he
  refine Wp.step hd ?_ k
  simp only [stp, hl, h3, mnx, if_true]
theorem W_obj {c i a b q : Nat} (hd : decode (bt y) pc = .ok (.invokespecial i, 3)) (ho : mow y = c) (hl : lk c i = (8, a, b)) (hq : q < 1000) (hs : st.length ≤ 4) (k : Wp d y (pc + 3) L st M Q) : Wp d y pc L (.ref q :: st) M Q := by
  subst ho
  refine Wp.step hd ?_ k
  simp only [stp, hl, hq, hs, mnx, if_true, and_self]
theorem W_copy {c i a b q q0 n0 n1 : Nat} {f g : Nat → Int32} {n dp sp : Int32} (hd : decode (bt y) pc = .ok (.invokestatic i, 3)) (ho : mow y = c) (hl : lk c i = (9, a, b)) (hc0 : M.2 q0 = .inl (0, n0, f)) (hc : M.2 q = .inl (0, n1, g)) (h1 : ¬ sp < 0) (h2 : ¬ dp < 0) (h3 : ¬ n < 0) (h4 : sp.toNatClampNeg + n.toNatClampNeg ≤ n0) (h5 : dp.toNatClampNeg + n.toNatClampNeg ≤ n1)
    (he : mset M q (.inl (0, n1, va_cpy f g sp.toNatClampNeg dp.toNatClampNeg n.toNatClampNeg)) = M') (k : Wp d y (pc + 3) L [] M' Q) : Wp d y pc L [.int n, .int dp, .ref q, .int sp, .ref q0] M Q := by
  subst ho; subst he
  refine Wp.step hd ?_ k
  simp only [stp, hl, mcopy, hc0, hc, h1, h2, h3, h4, h5, mnx, if_true, not_false_eq_true, and_self]
theorem W_callS {c i z na : Nat} {vs rest : List Value} {v : Option Value} (hd : decode (bt y) pc = .ok (.invokestatic i, 3)) (ho : mow y = c) (hl : lk c i = (5, z, na)) (h1 : 1 ≤ d) (hc : Ex (d - 1) z vs M v M') (hm : mcall z na false st = some (.inr (.inl (z, vs, rest)))) (hv : (mexp vs).length ≤ mml z) (k : Wp d y (pc + 3) L (v.toList ++ rest) M' Q) : Wp d y pc L st M Q := by
  subst ho
  refine Wp.call h1 hd ?_ hv hc k
  simp [stp, hl, minv, hm]
theorem W_callV {c i z na b : Nat} {vs rest : List Value} {v : Option Value} (hd : decode (bt y) pc = .ok (.invokevirtual i, 3)) (ho : mow y = c) (hl : lk c i = (4, z, na) ∨ lk c i = (15, z, na)) (h1 : 1 ≤ d) (hc : Ex (d - 1) z vs M v M') (hb : st[na]? = some (.ref b)) (hr : mrecv z b M = true) (hm : mcall z na true st = some (.inr (.inl (z, vs, rest)))) (hv : (mexp vs).length ≤ mml z) (k : Wp d y (pc + 3) L (v.toList ++ rest) M' Q) : Wp d y pc L st M Q := by
  subst ho
  refine Wp.call h1 hd ?_ hv hc k
  rcases hl with hl | hl
  · simp only [stp, hl, minv, hb, hr, hm, if_true, true_or]
  · simp only [stp, hl, minv, hb, hr, hm, if_true, or_true]
theorem W_callI {c i z na b : Nat} {vs rest : List Value} {v : Option Value} (hd : decode (bt y) pc = .ok (.invokespecial i, 3)) (ho : mow y = c) (hl : lk c i = (6, z, na) ∨ lk c i = (7, z, na)) (h1 : 1 ≤ d) (hc : Ex (d - 1) z vs M v M') (hb : st[na]? = some (.ref b)) (hr : b < 1000) (hm : mcall z na true st = some (.inr (.inl (z, vs, rest)))) (hv : (mexp vs).length ≤ mml z) (k : Wp d y (pc + 3) L (v.toList ++ rest) M' Q) : Wp d y pc L st M Q := by
  subst ho
  refine Wp.call h1 hd ?_ hv hc k
  rcases hl with hl | hl
  · simp [stp, hl, minv, hb, hr, hm]
  · simp [stp, hl, minv, hb, hr, hm]
theorem W_iret {ty : FieldType} {x : Int32} (hd : decode (bt y) pc = .ok (.ireturn, 1)) (hr : mrt y = some ty) (hn : narrow ty (.int x) = .int x) (k : Q (some (.int x)) M) : Wp d y pc L [.int x] M Q := by
  refine Wp.ret hd ?_ k
  simp only [stp, hr, hn, if_true]
theorem W_lret {x : Int64} (hd : decode (bt y) pc = .ok (.lreturn, 1)) (hr : mrt y = some .long) (k : Q (some (.long x)) M) : Wp d y pc L [.long x] M Q := by
  refine Wp.ret hd ?_ k
  simp only [stp, hr, if_true]
theorem W_ret (hd : decode (bt y) pc = .ok (.return_, 1)) (hr : mrt y = none) (k : Q none M) : Wp d y pc L [] M Q := by
  refine Wp.ret hd ?_ k
  simp only [stp, hr, if_true]
end RUL
