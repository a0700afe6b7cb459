/-! CONSTRUCTORS: the small ones (wip/whole/gen84.py) -/
/-- a heap of N cells, laid in order -/
def HF (g : mG) (N : Nat) (h : Nat → mC) : mM := (N, fun k => if k < N then h k else ro g k)
section
variable {g : mG} {N : Nat} {h h' : Nat → mC}
theorem HF_x (e : ∀ k, k < N → h k = h' k) : HF g N h = HF g N h' := by
  refine congrArg (Prod.mk N) (funext fun k => ?_)
  by_cases q : k < N
  · rw [if_pos q, if_pos q]
    exact e k q
  · rw [if_neg q, if_neg q]
theorem HF_push {x : mC} (e : h N = x) : mpush (HF g N h) x = HF g (N + 1) h := by
  subst e
  refine congrArg (Prod.mk (N + 1)) (funext fun k => ?_)
  show va_up (fun k => if k < N then h k else ro g k) N (h N) k = if k < N + 1 then h k else ro g k
  by_cases q : k = N
  · subst q
    rw [va_same, if_pos (Nat.lt_succ_self _)]
  · rw [va_oth _ _ q]
    by_cases q2 : k < N
    · rw [if_pos q2, if_pos (by omega)]
    · rw [if_neg q2, if_neg (by omega)]
theorem HF_pushN {x : mC} : mpush (HF g N h) x = HF g (N + 1) (va_up h N x) := by
  rw [show HF g N h = HF g N (va_up h N x) from HF_x (fun k hk => (va_oth _ _ (by omega)).symm)]
  exact HF_push (va_same _ _ _)
theorem HF_set {k : Nat} {x : mC} (hk : k < N) : mset (HF g N h) k x = HF g N (va_up h k x) := by
  refine congrArg (Prod.mk N) (funext fun i => ?_)
  show va_up (fun k => if k < N then h k else ro g k) k x i = if i < N then va_up h k x i else ro g i
  by_cases q : i = k
  · subst q
    rw [va_same, if_pos hk, va_same]
  · rw [va_oth _ _ q, va_oth _ _ q]
theorem HF_get {k : Nat} (hk : k < N) : (HF g N h).2 k = h k := if_pos hk
theorem HF_ro {k : Nat} (hk : N ≤ k) : (HF g N h).2 k = ro g k := if_neg (by omega)
theorem HF_0 : (0, ro g) = HF g 0 h := congrArg (Prod.mk 0) (funext fun k => (if_neg (Nat.not_lt_zero k)).symm)
theorem va_va {α : Type} {f : Nat → α} {i : Nat} {x y : α} : va_up (va_up f i x) i y = va_up f i y := by
  funext j
  unfold va_up
  by_cases q : j = i <;> simp [q]
theorem ov2 {α : Type} {f : Nat → α} {i j : Nat} {x x' y : α} (hij : ¬ i = j) : va_up (va_up (va_up f i x) j y) i x' = va_up (va_up f i x') j y := by
  funext k
  unfold va_up
  by_cases q : k = i
  · subst q
    simp [hij]
  · simp [q]
theorem ov3 {α : Type} {f : Nat → α} {i j k : Nat} {x x' y z : α} (hij : ¬ i = j) (hik : ¬ i = k) : va_up (va_up (va_up (va_up f i x) j y) k z) i x' = va_up (va_up (va_up f i x') j y) k z := by
  funext m
  unfold va_up
  by_cases q : m = i
  · subst q
    simp [hij, hik]
  · simp [q]
theorem ov_end {q : Nat} {x : mC} (e : h q = x) : va_up h q x = h := by
  subst e
  exact va_self h q
theorem mput_ref {y a b k : Nat} (hk : k < 1000) (h : mput y a b (.ref 0) = true) : mput y a b (.ref k) = true := by
  unfold mput at h ⊢
  have e : mok (nYY a b) (.ref k) = mok (nYY a b) (.ref 0) := by
    cases nYY a b <;> simp [mok, hk]
  rw [e]
  exact h
end
def Dft (a : Nat) : List Value := (List.range (nNN a)).map (fun j => defaultValue (nYY a j))
section
variable {d : Nat} {g : mG} {h : Nat → mC} {b : Nat}
theorem x_25 {M : mM} {q : Nat} (hq : q < 1000) : Ex d 25 [.ref q] M none M := by
  refine Ex.of ?_
  show Wp _ 25 0 [.ref q] [] _ _
  refine W_aload_n d_25_0 rfl (by omega) ?_
  refine W_obj d_25_1 o_25 k_2_3 hq (by decide) ?_
  refine W_ret d_25_4 rt_25 ?_
  exact ⟨rfl, rfl⟩
theorem x_22 {M : mM} {q : Nat} (hq : q < 1000) : Ex d 22 [.ref q] M none M := by
  refine Ex.of ?_
  show Wp _ 22 0 [.ref q] [] _ _
  refine W_aload_n d_22_0 rfl (by omega) ?_
  refine W_obj d_22_1 o_22 k_1_1 hq (by decide) ?_
  refine W_ret d_22_4 rt_22 ?_
  exact ⟨rfl, rfl⟩
theorem x_15 (hb : b ≤ 200) (h0 : h b = .inr (.inr (0, [.ref (b + 1), .ref (b + 2), .ref (b + 3), .int 0]))) (h1 : h (b + 1) = .inl (0, 160, (fun _ => 0))) (h2 : h (b + 2) = .inl (0, 4, (fun _ => 0))) (h3 : h (b + 3) = .inl (0, 160, (fun _ => 0))) : Ex d 15 [.ref b] (HF g (b + 1) (va_up h b (.inr (.inr (0, Dft 0))))) none (HF g (b + 4) h) := by
  refine Ex.of ?_
  show Wp _ 15 0 [.ref b] [] _ _
  refine W_aload_n d_15_0 rfl (by omega) ?_
  refine W_obj d_15_1 o_15 k_0_3 (show b < 1000 by omega) (by decide) ?_
  refine W_aload_n d_15_4 rfl (by omega) ?_
  refine W_sipush d_15_5 (v := 160) (by decide) ?_
  refine W_newI d_15_8 (by decide) (by decide) (show b + 1 < 1000 by omega) (HF_push ((va_oth _ _ (by omega)).trans (h1))) ?_
  show Wp _ _ _ _ (.ref (b + 1) :: _) _ _
  refine W_putf d_15_10 o_15 k_0_9 ((HF_get (by omega)).trans (va_same _ _ _)) (Nat.le_of_ble_eq_true rfl) (mput_ref (by omega) (by decide +kernel)) ((HF_set (by omega)).trans (congrArg (HF g _) va_va)) ?_
  refine W_aload_n d_15_13 rfl (by omega) ?_
  refine W_iconst d_15_14 (v := 4) (by decide) ?_
  refine W_newI d_15_15 (by decide) (by decide) (show b + 2 < 1000 by omega) (HF_push ((va_oth _ _ (by omega)).trans (h2))) ?_
  show Wp _ _ _ _ (.ref (b + 2) :: _) _ _
  refine W_putf d_15_17 o_15 k_0_15 ((HF_get (by omega)).trans (va_same _ _ _)) (Nat.le_of_ble_eq_true rfl) (mput_ref (by omega) (by decide +kernel)) ((HF_set (by omega)).trans (congrArg (HF g _) va_va)) ?_
  refine W_aload_n d_15_20 rfl (by omega) ?_
  refine W_sipush d_15_21 (v := 160) (by decide) ?_
  refine W_newI d_15_24 (by decide) (by decide) (show b + 3 < 1000 by omega) (HF_push ((va_oth _ _ (by omega)).trans (h3))) ?_
  show Wp _ _ _ _ (.ref (b + 3) :: _) _ _
  refine W_putf d_15_26 o_15 k_0_18 ((HF_get (by omega)).trans (va_same _ _ _)) (Nat.le_of_ble_eq_true rfl) (mput_ref (by omega) (by decide +kernel)) ((HF_set (by omega)).trans (congrArg (HF g _) va_va)) ?_
  refine W_ret d_15_29 rt_15 ?_
  exact ⟨rfl, congrArg (HF g _) (ov_end h0)⟩
theorem x_35 (hb : b ≤ 200) (h0 : h b = .inr (.inr (3, [.ref (b + 1), .int 0, .int 0, .int 0, .int 0, .int 0, .null]))) (h1 : h (b + 1) = .inl (0, 160, (fun _ => 0))) : Ex d 35 [.ref b] (HF g (b + 1) (va_up h b (.inr (.inr (3, Dft 3))))) none (HF g (b + 2) h) := by
  refine Ex.of ?_
  show Wp _ 35 0 [.ref b] [] _ _
  refine W_aload_n d_35_0 rfl (by omega) ?_
  refine W_obj d_35_1 o_35 k_3_3 (show b < 1000 by omega) (by decide) ?_
  refine W_aload_n d_35_4 rfl (by omega) ?_
  refine W_sipush d_35_5 (v := 160) (by decide) ?_
  refine W_newI d_35_8 (by decide) (by decide) (show b + 1 < 1000 by omega) (HF_push ((va_oth _ _ (by omega)).trans (h1))) ?_
  show Wp _ _ _ _ (.ref (b + 1) :: _) _ _
  refine W_putf d_35_10 o_35 k_3_9 ((HF_get (by omega)).trans (va_same _ _ _)) (Nat.le_of_ble_eq_true rfl) (mput_ref (by omega) (by decide +kernel)) ((HF_set (by omega)).trans (congrArg (HF g _) va_va)) ?_
  refine W_ret d_35_13 rt_35 ?_
  exact ⟨rfl, congrArg (HF g _) (ov_end h0)⟩
theorem x_77 (hb : b ≤ 200) (h0 : h b = .inr (.inr (5, [.int (-1), .int 0, .ref (b + 1)]))) (h1 : h (b + 1) = .inl (0, 40, (fun _ => 0))) : Ex d 77 [.ref b] (HF g (b + 1) (va_up h b (.inr (.inr (5, Dft 5))))) none (HF g (b + 2) h) := by
  refine Ex.of ?_
  show Wp _ 77 0 [.ref b] [] _ _
  refine W_aload_n d_77_0 rfl (by omega) ?_
  refine W_obj d_77_1 o_77 k_5_3 (show b < 1000 by omega) (by decide) ?_
  refine W_aload_n d_77_4 rfl (by omega) ?_
  refine W_iconst d_77_5 (v := (-1)) (by decide) ?_
  refine W_putf d_77_6 o_77 k_5_9 ((HF_get (by omega)).trans (va_same _ _ _)) (Nat.le_of_ble_eq_true rfl) rfl ((HF_set (by omega)).trans (congrArg (HF g _) va_va)) ?_
  refine W_aload_n d_77_9 rfl (by omega) ?_
  refine W_bipush d_77_10 (v := 40) (by decide) ?_
  refine W_newI d_77_12 (by decide) (by decide) (show b + 1 < 1000 by omega) (HF_push ((va_oth _ _ (by omega)).trans (h1))) ?_
  show Wp _ _ _ _ (.ref (b + 1) :: _) _ _
  refine W_putf d_77_14 o_77 k_5_15 ((HF_get (by omega)).trans (va_same _ _ _)) (Nat.le_of_ble_eq_true rfl) (mput_ref (by omega) (by decide +kernel)) ((HF_set (by omega)).trans (congrArg (HF g _) va_va)) ?_
  refine W_ret d_77_17 rt_77 ?_
  exact ⟨rfl, congrArg (HF g _) (ov_end h0)⟩
def owg (b : Nat) : Nat → Nat → Option Nat
  | 0 => fun _ => none
  | j + 1 => va_up (owg b j) j (some (b + 6 + j))
theorem owg_v (b : Nat) : ∀ j k, owg b j k = if k < j then some (b + 6 + k) else none
  | 0, k => (if_neg (Nat.not_lt_zero k)).symm
  | j + 1, k => by
    show va_up (owg b j) j (some (b + 6 + j)) k = _
    by_cases q : k = j
    · subst q
      rw [va_same, if_pos (Nat.lt_succ_self _)]
    · rw [va_oth _ _ q, owg_v b j k]
      by_cases q2 : k < j
      · rw [if_pos q2, if_pos (by omega)]
      · rw [if_neg q2, if_neg (by omega)]
def owf (b : Nat) : Nat → Option Nat := fun j => if j < 12 then some (b + 6 + j) else none
theorem owg_12 (b : Nat) : owg b 12 = owf b := funext fun k => owg_v b 12 k
theorem lp_55 (hd : 1 ≤ d) (hb : b ≤ 100) (h0 : h b = .inr (.inr (4, [.ref (b + 1), .int 0, .ref (b + 2), .ref (b + 3), .ref (b + 4), .int 0, .int 0, .int 10, .int 0, .int 0, .ref (b + 5)]))) (h1 : h (b + 1) = .inr (.inl (2, 12, owf b))) (h2 : h (b + 2) = .inl (0, 6, (fun _ => 0))) (h3 : h (b + 3) = .inl (0, 6, (fun _ => 0))) (h4 : h (b + 4) = .inl (0, 6, (fun _ => 0))) (h5 : h (b + 5) = .inl (0, 6, (fun _ => 0))) (how : ∀ j, j < 12 → h (b + 6 + j) = .inr (.inr (2, Dft 2))) : ∀ (k j : Nat), j + k = 12 → Wp d 55 53 [.ref b, .int (nI j)] [] (HF g (b + 6 + j) (va_up h (b + 1) (.inr (.inl (2, 12, owg b j))))) (fun v' M' => v' = none ∧ M' = HF g (b + 18) h) := by
  intro k
  induction k with
  | zero =>
    intro j hj
    have ej : j = 12 := by omega
    refine W_iload_n d_55_53 rfl ?_
    refine W_aload_n d_55_54 rfl (by omega) ?_
    refine W_getf d_55_55 o_55 k_4_11 ((HF_get (by omega)).trans ((va_oth _ _ (by omega)).trans h0)) rfl ?_
    refine W_alen (n := 12) (v := 12) d_55_58 ((congrArg mlen ((HF_get (by omega)).trans (va_same _ _ _))).trans rfl) (by decide) ?_
    refine W_icmp_ge (tgt := 81) d_55_59 (by decide) (fun _ => ?_) (fun q => absurd (nI_le (a := 12) (b := j) (by omega) (by omega)) q)
    refine W_ret d_55_81 rt_55 ?_
    subst ej
    exact ⟨rfl, congrArg (HF g _) (ov_end (h1.trans (congrArg (fun f => Sum.inr (Sum.inl (2, 12, f))) (owg_12 b).symm)))⟩
  | succ k ih =>
    intro j hj
    refine W_iload_n d_55_53 rfl ?_
    refine W_aload_n d_55_54 rfl (by omega) ?_
    refine W_getf d_55_55 o_55 k_4_11 ((HF_get (by omega)).trans ((va_oth _ _ (by omega)).trans h0)) rfl ?_
    refine W_alen (n := 12) (v := 12) d_55_58 ((congrArg mlen ((HF_get (by omega)).trans (va_same _ _ _))).trans rfl) (by decide) ?_
    refine W_icmp_ge (tgt := 81) d_55_59 (by decide) (fun q => absurd q (nI_ge (a := j) (b := 12) (by omega) (by omega))) (fun _ => ?_)
    refine W_aload_n d_55_62 rfl (by omega) ?_
    refine W_getf d_55_63 o_55 k_4_11 ((HF_get (by omega)).trans ((va_oth _ _ (by omega)).trans h0)) rfl ?_
    refine W_iload_n d_55_66 rfl ?_
    refine W_new d_55_67 o_55 k_4_65545 (show b + 6 + j < 1000 by omega) (HF_push ((va_oth _ _ (by omega)).trans (how j (by omega)))) ?_
    show Wp _ _ _ _ (.ref (b + 6 + j) :: _) _ _
    refine W_dup d_55_70 rfl ?_
    refine W_callI d_55_71 o_55 (Or.inr k_4_36) (by omega) (x_25 (show b + 6 + j < 1000 by omega)) rfl (show b + 6 + j < 1000 by omega) rfl (Nat.le_of_ble_eq_true rfl) ?_
    refine W_aast d_55_74 ((HF_get (by omega)).trans (va_same _ _ _)) ((HF_get (by omega)).trans ((va_oth _ _ (by omega)).trans (how j (by omega)))) (vp_in_nI (by omega) (by decide)) ((HF_set (by omega)).trans (congrArg (HF g _) va_va)) ?_
    rw [nI_clamp (by omega)]
    refine W_iinc (v := 1) d_55_75 rfl (by decide) rfl ?_
    rw [show ((nI j + 1 : Int32)) = nI (j + 1) from nI_add j 1]
    refine W_goto (tgt := 53) d_55_78 (by decide) ?_
    exact ih (j + 1) (by omega)
theorem x_55 (hd : 1 ≤ d) (hb : b ≤ 100) (h0 : h b = .inr (.inr (4, [.ref (b + 1), .int 0, .ref (b + 2), .ref (b + 3), .ref (b + 4), .int 0, .int 0, .int 10, .int 0, .int 0, .ref (b + 5)]))) (h1 : h (b + 1) = .inr (.inl (2, 12, owf b))) (h2 : h (b + 2) = .inl (0, 6, (fun _ => 0))) (h3 : h (b + 3) = .inl (0, 6, (fun _ => 0))) (h4 : h (b + 4) = .inl (0, 6, (fun _ => 0))) (h5 : h (b + 5) = .inl (0, 6, (fun _ => 0))) (how : ∀ j, j < 12 → h (b + 6 + j) = .inr (.inr (2, Dft 2))) : Ex d 55 [.ref b] (HF g (b + 1) (va_up h b (.inr (.inr (4, Dft 4))))) none (HF g (b + 18) h) := by
  refine Ex.of ?_
  show Wp _ 55 0 [.ref b, .null] [] _ _
  refine W_aload_n d_55_0 rfl (by omega) ?_
  refine W_obj d_55_1 o_55 k_4_3 (show b < 1000 by omega) (by decide) ?_
  refine W_aload_n d_55_4 rfl (by omega) ?_
  refine W_bipush d_55_5 (v := 12) (by decide) ?_
  refine W_newA d_55_7 o_55 k_4_9 (by decide) (by decide) (show b + 1 < 1000 by omega) HF_pushN ?_
  show Wp _ _ _ _ (.ref (b + 1) :: _) (HF g (b + 2) (va_up (va_up h b _) (b + 1) (.inr (.inl (2, 12, owg b 0))))) _
  refine W_putf d_55_10 o_55 k_4_11 ((HF_get (by omega)).trans ((va_oth _ _ (by omega)).trans (va_same _ _ _))) (Nat.le_of_ble_eq_true rfl) (mput_ref (by omega) (by decide +kernel)) ((HF_set (by omega)).trans (congrArg (HF g _) (ov2 (by omega)))) ?_
  refine W_aload_n d_55_13 rfl (by omega) ?_
  refine W_bipush d_55_14 (v := 6) (by decide) ?_
  refine W_newI d_55_16 (by decide) (by decide) (show b + 2 < 1000 by omega) (HF_push ((va_oth _ _ (by omega)).trans ((va_oth _ _ (by omega)).trans (h2)))) ?_
  show Wp _ _ _ _ (.ref (b + 2) :: _) _ _
  refine W_putf d_55_18 o_55 k_4_17 ((HF_get (by omega)).trans ((va_oth _ _ (by omega)).trans (va_same _ _ _))) (Nat.le_of_ble_eq_true rfl) (mput_ref (by omega) (by decide +kernel)) ((HF_set (by omega)).trans (congrArg (HF g _) (ov2 (by omega)))) ?_
  refine W_aload_n d_55_21 rfl (by omega) ?_
  refine W_bipush d_55_22 (v := 6) (by decide) ?_
  refine W_newI d_55_24 (by decide) (by decide) (show b + 3 < 1000 by omega) (HF_push ((va_oth _ _ (by omega)).trans ((va_oth _ _ (by omega)).trans (h3)))) ?_
  show Wp _ _ _ _ (.ref (b + 3) :: _) _ _
  refine W_putf d_55_26 o_55 k_4_21 ((HF_get (by omega)).trans ((va_oth _ _ (by omega)).trans (va_same _ _ _))) (Nat.le_of_ble_eq_true rfl) (mput_ref (by omega) (by decide +kernel)) ((HF_set (by omega)).trans (congrArg (HF g _) (ov2 (by omega)))) ?_
  refine W_aload_n d_55_29 rfl (by omega) ?_
  refine W_bipush d_55_30 (v := 6) (by decide) ?_
  refine W_newI d_55_32 (by decide) (by decide) (show b + 4 < 1000 by omega) (HF_push ((va_oth _ _ (by omega)).trans ((va_oth _ _ (by omega)).trans (h4)))) ?_
  show Wp _ _ _ _ (.ref (b + 4) :: _) _ _
  refine W_putf d_55_34 o_55 k_4_24 ((HF_get (by omega)).trans ((va_oth _ _ (by omega)).trans (va_same _ _ _))) (Nat.le_of_ble_eq_true rfl) (mput_ref (by omega) (by decide +kernel)) ((HF_set (by omega)).trans (congrArg (HF g _) (ov2 (by omega)))) ?_
  refine W_aload_n d_55_37 rfl (by omega) ?_
  refine W_bipush d_55_38 (v := 10) (by decide) ?_
  refine W_putf d_55_40 o_55 k_4_27 ((HF_get (by omega)).trans ((va_oth _ _ (by omega)).trans (va_same _ _ _))) (Nat.le_of_ble_eq_true rfl) rfl ((HF_set (by omega)).trans (congrArg (HF g _) (ov2 (by omega)))) ?_
  refine W_aload_n d_55_43 rfl (by omega) ?_
  refine W_bipush d_55_44 (v := 6) (by decide) ?_
  refine W_newI d_55_46 (by decide) (by decide) (show b + 5 < 1000 by omega) (HF_push ((va_oth _ _ (by omega)).trans ((va_oth _ _ (by omega)).trans (h5)))) ?_
  show Wp _ _ _ _ (.ref (b + 5) :: _) _ _
  refine W_putf d_55_48 o_55 k_4_33 ((HF_get (by omega)).trans ((va_oth _ _ (by omega)).trans (va_same _ _ _))) (Nat.le_of_ble_eq_true rfl) (mput_ref (by omega) (by decide +kernel)) ((HF_set (by omega)).trans (congrArg (HF g _) (ov2 (by omega)))) ?_
  refine W_iconst d_55_51 (v := 0) (by decide) ?_
  refine W_istore_n d_55_52 rfl ?_
  have e : va_up h b (.inr (.inr (4, [.ref (b + 1), .int 0, .ref (b + 2), .ref (b + 3), .ref (b + 4), .int 0, .int 0, .int 10, .int 0, .int 0, .ref (b + 5)]))) = h := ov_end h0
  show Wp _ 55 53 _ _ (HF g (b + 6) (va_up (va_up h b (.inr (.inr (4, [.ref (b + 1), .int 0, .ref (b + 2), .ref (b + 3), .ref (b + 4), .int 0, .int 0, .int 10, .int 0, .int 0, .ref (b + 5)])))) (b + 1) (.inr (.inl (2, 12, owg b 0))))) _
  rw [e]
  exact lp_55 (g := g) hd hb h0 h1 h2 h3 h4 h5 how 12 0 (by omega)
end
