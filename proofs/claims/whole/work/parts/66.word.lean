/-! TEXTS: the class reads its next word (wip/whole/gen66.py) -/
/-- how far a kind of byte goes on -/
def spn (p : Int32 → Bool) (f : Nat → Int32) : Nat → Nat → Nat
  | 0, i => i
  | k + 1, i => cond (p (f i)) (spn p f k (i + 1)) i
theorem spn_ge (p : Int32 → Bool) (f : Nat → Int32) : ∀ k i, i ≤ spn p f k i ∧ spn p f k i ≤ i + k
  | 0, i => by rw [spn]; omega
  | k + 1, i => by
    rw [spn]
    have h := spn_ge p f k (i + 1)
    cases p (f i) with
    | true => exact ⟨by simp only [cond]; omega, by simp only [cond]; omega⟩
    | false => exact ⟨Nat.le_refl _, by simp only [cond]; omega⟩
theorem spn_in (p : Int32 → Bool) (f : Nat → Int32) : ∀ k i j, i ≤ j → j < spn p f k i → p (f j) = true
  | 0, i, j, h1, h2 => by rw [spn] at h2; omega
  | k + 1, i, j, h1, h2 => by
    rw [spn] at h2
    cases hp : p (f i) with
    | false => rw [hp] at h2; simp only [cond] at h2; omega
    | true =>
      rw [hp] at h2
      by_cases e : j = i
      · rw [e]; exact hp
      · exact spn_in p f k (i + 1) j (by omega) h2
theorem spn_end (p : Int32 → Bool) (f : Nat → Int32) : ∀ k i, spn p f k i < i + k → p (f (spn p f k i)) = false
  | 0, i, h => by rw [spn] at h; omega
  | k + 1, i, h => by
    rw [spn] at h ⊢
    cases hp : p (f i) with
    | false => exact hp
    | true =>
      rw [hp] at h
      simp only [cond] at h ⊢
      exact spn_end p f k (i + 1) (by omega)
def pbl (v : Int32) : Bool := decide (v = 32 ∨ v = 10)
def plt (v : Int32) : Bool := decide (97 ≤ v ∧ v ≤ 122)
def pdg (v : Int32) : Bool := decide (48 ≤ v ∧ v ≤ 57)
/-- the number that digits make -/
def num (f : Nat → Int32) : Nat → Nat → Int32 → Int32
  | 0, _, v => v
  | k + 1, i, v => cond (pdg (f i)) (num f k (i + 1) (v * 10 + f i - 48)) v
def Wch (i : Nat) : Int32 := (roS 1).getD i 0
/-- the same as another of the words -/
def eqw (f : Nat → Int32) (s a : Nat) : Nat → Nat → Bool
  | 0, _ => true
  | k + 1, i => if Wch i = f (s + i - a) then eqw f s a k (i + 1) else false
def isw (f : Nat → Int32) (s e a b : Nat) : Bool := if b - a = e - s then eqw f s a (b - a) a else false
def wsp (q : Nat → Nat → Bool) : Nat → Nat → Int32 → Nat → Nat → Int32
  | 0, _, t, _, _ => t
  | k + 1, i, t, w, a => if Wch i = 32 then wsp q k (i + 1) (cond (q a i) (nI w) t) (w + 1) (i + 1) else wsp q k (i + 1) t w a
theorem Wch_ok : ∀ i, i < 61 → (((fun j => (roS 1).getD j 0) i &&& 255).toUInt32 % 65536).toInt32 = Wch i ∧ narrow .char (.int (Wch i)) = .int (Wch i) := by decide +kernel
/-- the reader's numbers, all but some -/
def Rw (B B' : tR) (W : List Nat) : Prop := B' 0 = B 0 ∧ ∀ c, c ∉ W → B' 1 c = B 1 c
theorem Rw.refl {B : tR} {W : List Nat} : Rw B B W := ⟨rfl, fun _ _ => rfl⟩
theorem Rw.tr {B B' B2 : tR} {W W' V : List Nat} (h : Rw B B' W) (h2 : Rw B' B2 W') (hV : ∀ c, c ∉ V → c ∉ W ∧ c ∉ W') : Rw B B2 V := ⟨h2.1.trans h.1, fun c hc => (h2.2 c (hV c hc).2).trans (h.2 c (hV c hc).1)⟩
theorem Rw.u {B : tR} {c : Nat} {v : Int32} {W : List Nat} (hc : c ∈ W) : Rw B (u2 B 1 c v) W := ⟨u2_row (by decide), fun e he => (u2_ap _ _ _ _ _ _).trans (if_neg (fun q : 1 = 1 ∧ e = c => he (q.2 ▸ hc)))⟩
theorem u2_at {B : tR} {a c : Nat} {v : Int32} : u2 B a c v a c = v := (u2_ap _ _ _ _ _ _).trans (if_pos ⟨rfl, rfl⟩)
theorem u2_ot {B : tR} {a c e : Nat} {v : Int32} (h : ¬ e = c) : u2 B a c v a e = B a e := (u2_ap _ _ _ _ _ _).trans (if_neg (fun q => h q.2))
section
variable {d : Nat} {g : mG} {N : Nat} {A T K : Nat → tR} {E : Nat → Int32} {l : Int64} {G : tR} {Qm : Nat → mC} {sz : Nat} {Q : Option Value → mM → Prop}
theorem x_47l (hd : 1 ≤ d) (hz : sz ≤ 160) : ∀ (k i : Nat) (B : tR), B 1 0 = nI sz → B 1 1 = nI i → i + k = sz → (∀ B', Rw B B' [1] → B' 1 1 = nI (spn pbl (B 0) k i) → Wp d 47 39 [.ref 55] [] (N, H3 g (cc A T K B' E l G) Qm) Q) → Wp d 47 0 [.ref 55] [] (N, H3 g (cc A T K B E l G) Qm) Q := by
  intro k
  induction k with
  | zero =>
    intro i B hs hp hi kk
    have ei : i = sz := by omega
    refine W_aload_n d_47_0 rfl (by decide) ?_
    refine W_getf d_47_1 o_47 k_3_28 rfl rfl ?_
    rw [hp]
    refine W_aload_n d_47_4 rfl (by decide) ?_
    refine W_getf d_47_5 o_47 k_3_15 rfl rfl ?_
    rw [hs]
    refine W_icmp_ge (tgt := 39) d_47_8 (by decide) (fun h8 => ?_) (fun h8 => absurd (nI_le (a := sz) (b := i) (by omega) (by omega)) h8)
    exact kk B Rw.refl hp
  | succ k ih =>
    intro i B hs hp hi kk
    refine W_aload_n d_47_0 rfl (by decide) ?_
    refine W_getf d_47_1 o_47 k_3_28 rfl rfl ?_
    rw [hp]
    refine W_aload_n d_47_4 rfl (by decide) ?_
    refine W_getf d_47_5 o_47 k_3_15 rfl rfl ?_
    rw [hs]
    refine W_icmp_ge (tgt := 39) d_47_8 (by decide) (fun h8 => absurd h8 (nI_ge (a := i) (b := sz) (by omega) (by omega))) (fun h8 => ?_)
    refine W_aload_n d_47_11 rfl (by decide) ?_
    refine W_getf d_47_12 o_47 k_3_9 rfl rfl ?_
    refine W_aload_n d_47_15 rfl (by decide) ?_
    refine W_getf d_47_16 o_47 k_3_28 rfl rfl ?_
    rw [hp]
    refine W_iald d_47_19 rfl (by decide) (vp_in_nI (by omega) (by decide)) (congrArg _ (nI_clamp (by omega))) ?_
    refine W_callS d_47_20 o_47 k_3_77 (by omega) x_52 rfl (Nat.le_of_ble_eq_true rfl) ?_
    refine W_if_eq (tgt := 39) d_47_23 (by decide) (fun h23 => ?_) (fun h23 => ?_)
    · exact kk B Rw.refl (hp.trans (congrArg nI (show i = spn pbl (B 0) (k + 1) i from by rw [spn, show pbl (B 0 i) = false from decide_eq_false (bI_f h23)]; rfl)))
    · refine W_aload_n d_47_26 rfl (by decide) ?_
      refine W_dup d_47_27 rfl ?_
      refine W_getf d_47_28 o_47 k_3_28 rfl rfl ?_
      rw [hp]
      refine W_iconst d_47_31 (v := 1) (by decide) ?_
      refine W_iadd d_47_32 ?_
      rw [show ((nI i + 1 : Int32)) = nI (i + 1) from nI_add i 1]
      refine W_putf d_47_33 o_47 k_3_28 rfl (Nat.le_of_ble_eq_true rfl) rfl ms_rr2 ?_
      refine W_goto (tgt := 0) d_47_36 (by decide) ?_
      have hr : Rw B (u2 B 1 1 (nI (i + 1))) [1] := Rw.u (by decide)
      refine ih (i + 1) _ ((hr.2 0 (by decide)).trans hs) u2_at (by omega) (fun B' h1 h2 => kk B' (hr.tr h1 (fun c hc => ⟨hc, hc⟩)) ?_)
      rw [h2, hr.1, show spn pbl (B 0) (k + 1) i = spn pbl (B 0) k (i + 1) from by rw [spn, show pbl (B 0 i) = true from decide_eq_true (bI_t h23)]; rfl]
theorem x_48l (hd : 1 ≤ d) (hz : sz ≤ 160) : ∀ (k i : Nat) (B : tR), B 1 0 = nI sz → B 1 1 = nI i → i + k = sz → (∀ B', Rw B B' [1] → B' 1 1 = nI (spn plt (B 0) k i) → Wp d 48 39 [.ref 55, .null, .null, .null] [] (N, H3 g (cc A T K B' E l G) Qm) Q) → Wp d 48 0 [.ref 55, .null, .null, .null] [] (N, H3 g (cc A T K B E l G) Qm) Q := by
  intro k
  induction k with
  | zero =>
    intro i B hs hp hi kk
    have ei : i = sz := by omega
    refine W_aload_n d_48_0 rfl (by decide) ?_
    refine W_getf d_48_1 o_48 k_3_28 rfl rfl ?_
    rw [hp]
    refine W_aload_n d_48_4 rfl (by decide) ?_
    refine W_getf d_48_5 o_48 k_3_15 rfl rfl ?_
    rw [hs]
    refine W_icmp_ge (tgt := 39) d_48_8 (by decide) (fun h8 => ?_) (fun h8 => absurd (nI_le (a := sz) (b := i) (by omega) (by omega)) h8)
    exact kk B Rw.refl hp
  | succ k ih =>
    intro i B hs hp hi kk
    refine W_aload_n d_48_0 rfl (by decide) ?_
    refine W_getf d_48_1 o_48 k_3_28 rfl rfl ?_
    rw [hp]
    refine W_aload_n d_48_4 rfl (by decide) ?_
    refine W_getf d_48_5 o_48 k_3_15 rfl rfl ?_
    rw [hs]
    refine W_icmp_ge (tgt := 39) d_48_8 (by decide) (fun h8 => absurd h8 (nI_ge (a := i) (b := sz) (by omega) (by omega))) (fun h8 => ?_)
    refine W_aload_n d_48_11 rfl (by decide) ?_
    refine W_getf d_48_12 o_48 k_3_9 rfl rfl ?_
    refine W_aload_n d_48_15 rfl (by decide) ?_
    refine W_getf d_48_16 o_48 k_3_28 rfl rfl ?_
    rw [hp]
    refine W_iald d_48_19 rfl (by decide) (vp_in_nI (by omega) (by decide)) (congrArg _ (nI_clamp (by omega))) ?_
    refine W_callS d_48_20 o_48 k_3_80 (by omega) x_53 rfl (Nat.le_of_ble_eq_true rfl) ?_
    refine W_if_eq (tgt := 39) d_48_23 (by decide) (fun h23 => ?_) (fun h23 => ?_)
    · exact kk B Rw.refl (hp.trans (congrArg nI (show i = spn plt (B 0) (k + 1) i from by rw [spn, show plt (B 0 i) = false from decide_eq_false (bI_f h23)]; rfl)))
    · refine W_aload_n d_48_26 rfl (by decide) ?_
      refine W_dup d_48_27 rfl ?_
      refine W_getf d_48_28 o_48 k_3_28 rfl rfl ?_
      rw [hp]
      refine W_iconst d_48_31 (v := 1) (by decide) ?_
      refine W_iadd d_48_32 ?_
      rw [show ((nI i + 1 : Int32)) = nI (i + 1) from nI_add i 1]
      refine W_putf d_48_33 o_48 k_3_28 rfl (Nat.le_of_ble_eq_true rfl) rfl ms_rr2 ?_
      refine W_goto (tgt := 0) d_48_36 (by decide) ?_
      have hr : Rw B (u2 B 1 1 (nI (i + 1))) [1] := Rw.u (by decide)
      refine ih (i + 1) _ ((hr.2 0 (by decide)).trans hs) u2_at (by omega) (fun B' h1 h2 => kk B' (hr.tr h1 (fun c hc => ⟨hc, hc⟩)) ?_)
      rw [h2, hr.1, show spn plt (B 0) (k + 1) i = spn plt (B 0) k (i + 1) from by rw [spn, show plt (B 0 i) = true from decide_eq_true (bI_t h23)]; rfl]
theorem x_49l {B : tR} {s e a b : Nat} (hd : 4 ≤ d) (hp : B 1 1 = nI e) (hs : B 1 2 = nI s) (hse : s ≤ e) (he : e ≤ 160) (hb : b < 61) (hl : b - a = e - s) : ∀ (k i : Nat), i + k = b → a ≤ i → Wp d 49 19 [.ref 55, .int (nI a), .int (nI b), .int (nI i)] [] (N, H3 g (cc A T K B E l G) Qm) (fun v' M' => v' = some (.int (bI (eqw (B 0) s a k i))) ∧ M' = (N, H3 g (cc A T K B E l G) Qm)) := by
  intro k
  induction k with
  | zero =>
    intro i hi ha
    have ei : i = b := by omega
    refine W_iload_n d_49_19 rfl ?_
    refine W_iload_n d_49_20 rfl ?_
    refine W_icmp_ge (tgt := 54) d_49_21 (by decide) (fun h21 => ?_) (fun h21 => absurd (nI_le (a := b) (b := i) (by omega) (by omega)) h21)
    refine W_iconst d_49_54 (v := 1) (by decide) ?_
    refine W_iret d_49_55 rt_49 rfl ?_
    exact ⟨rfl, rfl⟩
  | succ k ih =>
    intro i hi ha
    refine W_iload_n d_49_19 rfl ?_
    refine W_iload_n d_49_20 rfl ?_
    refine W_icmp_ge (tgt := 54) d_49_21 (by decide) (fun h21 => absurd h21 (nI_ge (a := i) (b := b) (by omega) (by omega))) (fun h21 => ?_)
    refine W_ldcS d_49_24 o_49 k_3_95 ?_
    refine W_iload_n d_49_26 rfl ?_
    refine W_callV d_49_27 o_49 (Or.inr k_3_102) (by omega) (x_2 (q := 1004) (b := 1007) (n := 61) (f := fun j => (roS 1).getD j 0) rfl (by decide) rfl (by decide) (by decide) (by omega) (Wch_ok i (by omega)).1 (Wch_ok i (by omega)).2 (by omega)) rfl rfl rfl (Nat.le_of_ble_eq_true rfl) ?_
    refine W_aload_n d_49_30 rfl (by decide) ?_
    refine W_getf d_49_31 o_49 k_3_9 rfl rfl ?_
    refine W_aload_n d_49_34 rfl (by decide) ?_
    refine W_getf d_49_35 o_49 k_3_38 rfl rfl ?_
    rw [hs]
    refine W_iload_n d_49_38 rfl ?_
    refine W_iadd d_49_39 ?_
    rw [show ((nI s + nI i : Int32)) = nI (s + i) from nI_add s i]
    refine W_iload_n d_49_40 rfl ?_
    refine W_isub d_49_41 ?_
    rw [show ((nI (s + i) - nI a : Int32)) = nI ((s + i) - a) from pk_sub (a := s + i) (b := a) (by omega)]
    refine W_iald d_49_42 rfl (by decide) (vp_in_nI (by omega) (by decide)) (congrArg _ (nI_clamp (by omega))) ?_
    refine W_icmp_eq (tgt := 48) d_49_43 (by decide) (fun h43 => ?_) (fun h43 => ?_)
    · refine W_iinc (v := 1) d_49_48 rfl (by decide) rfl ?_
      rw [show ((nI i + 1 : Int32)) = nI (i + 1) from nI_add i 1]
      refine W_goto (tgt := 19) d_49_51 (by decide) ?_
      rw [eqw, if_pos h43]
      exact ih (i + 1) (by omega) (by omega)
    · refine W_iconst d_49_46 (v := 0) (by decide) ?_
      refine W_iret d_49_47 rt_49 rfl ?_
      rw [eqw, if_neg h43]
      exact ⟨rfl, rfl⟩
theorem x_49 {B : tR} {s e a b : Nat} (hd : 4 ≤ d) (hp : B 1 1 = nI e) (hs : B 1 2 = nI s) (hse : s ≤ e) (he : e ≤ 160) (hab : a ≤ b) (hb : b < 61) : Ex d 49 [.ref 55, .int (nI a), .int (nI b)] (N, H3 g (cc A T K B E l G) Qm) (some (.int (bI (isw (B 0) s e a b)))) (N, H3 g (cc A T K B E l G) Qm) := by
  refine Ex.of ?_
  show Wp _ 49 0 [.ref 55, .int (nI a), .int (nI b), .null] [] _ _
  refine W_iload_n d_49_0 rfl ?_
  refine W_iload_n d_49_1 rfl ?_
  refine W_isub d_49_2 ?_
  rw [show ((nI b - nI a : Int32)) = nI (b - a) from pk_sub (a := b) (b := a) (by omega)]
  refine W_aload_n d_49_3 rfl (by decide) ?_
  refine W_getf d_49_4 o_49 k_3_28 rfl rfl ?_
  rw [hp]
  refine W_aload_n d_49_7 rfl (by decide) ?_
  refine W_getf d_49_8 o_49 k_3_38 rfl rfl ?_
  rw [hs]
  refine W_isub d_49_11 ?_
  rw [show ((nI e - nI s : Int32)) = nI (e - s) from pk_sub (a := e) (b := s) (by omega)]
  refine W_icmp_eq (tgt := 17) d_49_12 (by decide) (fun h12 => ?_) (fun h12 => ?_)
  · have q12 : b - a = e - s := (nI_eq (a := b - a) (b := e - s) (by omega) (by omega)).mp h12
    refine W_iload_n d_49_17 rfl ?_
    refine W_istore_n d_49_18 rfl ?_
    rw [isw, if_pos q12]
    exact x_49l hd hp hs hse he hb q12 (b - a) a (by omega) (by omega)
  · have q12 : ¬ b - a = e - s := mt (nI_eq (a := b - a) (b := e - s) (by omega) (by omega)).mpr h12
    refine W_iconst d_49_15 (v := 0) (by decide) ?_
    refine W_iret d_49_16 rt_49 rfl ?_
    rw [isw, if_neg q12]
    exact ⟨rfl, rfl⟩
end
