/-! TEXTS: the class reads a word, a number (wip/whole/gen67.py) -/
section
variable {d : Nat} {g : mG} {N : Nat} {A T K : Nat → tR} {E : Nat → Int32} {l : Int64} {G : tR} {Qm : Nat → mC} {sz s e : Nat} {Q : Option Value → mM → Prop}
theorem bI_f' {b : Bool} (h : bI b = 0) : b = false := by cases b with
  | true => exact absurd h (by decide)
  | false => rfl
theorem bI_t' {b : Bool} (h : ¬ bI b = 0) : b = true := by cases b with
  | true => rfl
  | false => exact absurd rfl h
theorem x_48w (hd : 5 ≤ d) (hse : s ≤ e) (he : e ≤ 160) : ∀ (k i w a : Nat) (t : Int32) (B : tR), i + k = 61 → a ≤ i → B 1 1 = nI e → B 1 2 = nI s → B 1 3 = t → Wp d 48 51 [.ref 55, .int (nI w), .int (nI a), .int (nI i)] [] (N, H3 g (cc A T K B E l G) Qm) (fun v' M' => v' = none ∧ ∃ B', Rw B B' [3] ∧ B' 1 3 = wsp (isw (B 0) s e) k i t w a ∧ M' = (N, H3 g (cc A T K B' E l G) Qm)) := by
  intro k
  induction k with
  | zero =>
    intro i w a t B hi ha hp hs ht
    refine W_iload_n d_48_51 rfl ?_
    refine W_ldcS d_48_52 o_48 k_3_95 ?_
    refine W_callV d_48_54 o_48 (Or.inr k_3_97) (by omega) (x_1 (q := 1004) (b := 1007) (n := 61) (f := fun j => (roS 1).getD j 0) rfl (by decide) rfl (by decide) (by decide) (by omega)) rfl (mrecv_of rfl o_1.symm) rfl (Nat.le_of_ble_eq_true rfl) ?_
    refine W_icmp_ge (tgt := 98) d_48_57 (by decide) (fun h57 => ?_) (fun h57 => absurd (nI_le (a := 61) (b := i) (by omega) (by omega)) h57)
    refine W_ret d_48_98 rt_48 ?_
    exact ⟨rfl, B, Rw.refl, ht, rfl⟩
  | succ k ih =>
    intro i w a t B hi ha hp hs ht
    refine W_iload_n d_48_51 rfl ?_
    refine W_ldcS d_48_52 o_48 k_3_95 ?_
    refine W_callV d_48_54 o_48 (Or.inr k_3_97) (by omega) (x_1 (q := 1004) (b := 1007) (n := 61) (f := fun j => (roS 1).getD j 0) rfl (by decide) rfl (by decide) (by decide) (by omega)) rfl (mrecv_of rfl o_1.symm) rfl (Nat.le_of_ble_eq_true rfl) ?_
    refine W_icmp_ge (tgt := 98) d_48_57 (by decide) (fun h57 => absurd h57 (nI_ge (a := i) (b := 61) (by omega) (by omega))) (fun h57 => ?_)
    refine W_ldcS d_48_60 o_48 k_3_95 ?_
    refine W_iload_n d_48_62 rfl ?_
    refine W_callV d_48_63 o_48 (Or.inr k_3_102) (by omega) (x_2 (q := 1004) (b := 1007) (n := 61) (f := fun j => (roS 1).getD j 0) rfl (by decide) rfl (by decide) (by decide) (by omega) (Wch_ok i (by omega)).1 (Wch_ok i (by omega)).2 (by omega)) rfl (mrecv_of rfl o_2.symm) rfl (Nat.le_of_ble_eq_true rfl) ?_
    refine W_bipush d_48_66 (v := 32) (by decide) ?_
    refine W_icmp_ne (tgt := 92) d_48_68 (by decide) (fun h68 => ?_) (fun h68 => ?_)
    · refine W_iinc (v := 1) d_48_92 rfl (by decide) rfl ?_
      rw [show ((nI i + 1 : Int32)) = nI (i + 1) from nI_add i 1]
      refine W_goto (tgt := 51) d_48_95 (by decide) ?_
      rw [wsp, if_neg h68]
      exact ih (i + 1) w a t B (by omega) (by omega) hp hs ht
    · refine W_aload_n d_48_71 rfl (by decide) ?_
      refine W_iload_n d_48_72 rfl ?_
      refine W_iload_n d_48_73 rfl ?_
      refine W_callV d_48_74 o_48 (Or.inl k_3_106) (by omega) (x_49 (s := s) (e := e) (a := a) (b := i) (by omega) hp hs hse he ha (by omega)) rfl (mrecv_of rfl o_49.symm) rfl (Nat.le_of_ble_eq_true rfl) ?_
      refine W_if_eq (tgt := 85) d_48_77 (by decide) (fun h77 => ?_) (fun h77 => ?_)
      · refine W_iinc (v := 1) d_48_85 rfl (by decide) rfl ?_
        rw [show ((nI w + 1 : Int32)) = nI (w + 1) from nI_add w 1]
        refine W_iload_n d_48_88 rfl ?_
        refine W_iconst d_48_89 (v := 1) (by decide) ?_
        refine W_iadd d_48_90 ?_
        rw [show ((nI i + 1 : Int32)) = nI (i + 1) from nI_add i 1]
        refine W_istore_n d_48_91 rfl ?_
        refine W_iinc (v := 1) d_48_92 rfl (by decide) rfl ?_
        rw [show ((nI i + 1 : Int32)) = nI (i + 1) from nI_add i 1]
        refine W_goto (tgt := 51) d_48_95 (by decide) ?_
        rw [wsp, if_pos h68, show isw (B 0) s e a i = false from bI_f' h77]
        exact ih (i + 1) (w + 1) (i + 1) t B (by omega) (by omega) hp hs ht
      · refine W_aload_n d_48_80 rfl (by decide) ?_
        refine W_iload_n d_48_81 rfl ?_
        refine W_putf d_48_82 o_48 k_3_41 rfl (Nat.le_of_ble_eq_true rfl) rfl ms_rr4 ?_
        refine W_iinc (v := 1) d_48_85 rfl (by decide) rfl ?_
        rw [show ((nI w + 1 : Int32)) = nI (w + 1) from nI_add w 1]
        refine W_iload_n d_48_88 rfl ?_
        refine W_iconst d_48_89 (v := 1) (by decide) ?_
        refine W_iadd d_48_90 ?_
        rw [show ((nI i + 1 : Int32)) = nI (i + 1) from nI_add i 1]
        refine W_istore_n d_48_91 rfl ?_
        refine W_iinc (v := 1) d_48_92 rfl (by decide) rfl ?_
        rw [show ((nI i + 1 : Int32)) = nI (i + 1) from nI_add i 1]
        refine W_goto (tgt := 51) d_48_95 (by decide) ?_
        rw [wsp, if_pos h68, show isw (B 0) s e a i = true from bI_t' h77]
        have hr : Rw B (u2 B 1 3 (nI w)) [3] := Rw.u (by decide)
        refine Wp.imp (ih (i + 1) (w + 1) (i + 1) (nI w) (u2 B 1 3 (nI w)) (by omega) (by omega) ((hr.2 1 (by decide)).trans hp) ((hr.2 2 (by decide)).trans hs) u2_at) ?_
        rintro v' M' ⟨x1, B', x2, x3, x4⟩
        exact ⟨x1, B', hr.tr x2 (fun c hc => ⟨hc, hc⟩), x3, x4⟩
end
