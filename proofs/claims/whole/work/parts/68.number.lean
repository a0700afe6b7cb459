/-! TEXTS: the class reads a number (wip/whole/gen68.py) -/
section
variable {d : Nat} {g : mG} {N : Nat} {A T K : Nat → tR} {E : Nat → Int32} {l : Int64} {G : tR} {Qm : Nat → mC} {sz : Nat} {Q : Option Value → mM → Prop}
theorem x_50l (hd : 1 ≤ d) (hz : sz ≤ 160) : ∀ (k i : Nat) (B : tR), B 1 0 = nI sz → B 1 1 = nI i → i + k = sz → (∀ B', Rw B B' [1, 4] → B' 1 1 = nI (spn pdg (B 0) k i) → B' 1 4 = num (B 0) k i (B 1 4) → Wp d 50 68 [.ref 55] [] (N, H3 g (cc A T K B' E l G) Qm) Q) → Wp d 50 5 [.ref 55] [] (N, H3 g (cc A T K B E l G) Qm) Q := by
  intro k
  induction k with
  | zero =>
    intro i B hs hp hi kk
    have ei : i = sz := by omega
    refine W_aload_n d_50_5 rfl (by decide) ?_
    refine W_getf d_50_6 o_50 k_3_28 rfl rfl ?_
    rw [hp]
    refine W_aload_n d_50_9 rfl (by decide) ?_
    refine W_getf d_50_10 o_50 k_3_15 rfl rfl ?_
    rw [hs]
    refine W_icmp_ge (tgt := 68) d_50_13 (by decide) (fun h13 => ?_) (fun h13 => absurd (nI_le (a := sz) (b := i) (by omega) (by omega)) h13)
    exact kk B Rw.refl hp rfl
  | succ k ih =>
    intro i B hs hp hi kk
    refine W_aload_n d_50_5 rfl (by decide) ?_
    refine W_getf d_50_6 o_50 k_3_28 rfl rfl ?_
    rw [hp]
    refine W_aload_n d_50_9 rfl (by decide) ?_
    refine W_getf d_50_10 o_50 k_3_15 rfl rfl ?_
    rw [hs]
    refine W_icmp_ge (tgt := 68) d_50_13 (by decide) (fun h13 => absurd h13 (nI_ge (a := i) (b := sz) (by omega) (by omega))) (fun h13 => ?_)
    refine W_aload_n d_50_16 rfl (by decide) ?_
    refine W_getf d_50_17 o_50 k_3_9 rfl rfl ?_
    refine W_aload_n d_50_20 rfl (by decide) ?_
    refine W_getf d_50_21 o_50 k_3_28 rfl rfl ?_
    rw [hp]
    refine W_iald d_50_24 rfl (by decide) (vp_in_nI (by omega) (by decide)) (congrArg _ (nI_clamp (by omega))) ?_
    refine W_callS d_50_25 o_50 k_3_86 (by omega) x_54 rfl (Nat.le_of_ble_eq_true rfl) ?_
    refine W_if_eq (tgt := 68) d_50_28 (by decide) (fun h28 => ?_) (fun h28 => ?_)
    · have hf : pdg (B 0 i) = false := decide_eq_false (bI_f h28)
      exact kk B Rw.refl (hp.trans (congrArg nI (show i = spn pdg (B 0) (k + 1) i from by rw [spn, hf]; rfl))) (show B 1 4 = num (B 0) (k + 1) i (B 1 4) from by rw [num, hf]; rfl)
    · refine W_aload_n d_50_31 rfl (by decide) ?_
      refine W_aload_n d_50_32 rfl (by decide) ?_
      refine W_getf d_50_33 o_50 k_3_71 rfl rfl ?_
      refine W_bipush d_50_36 (v := 10) (by decide) ?_
      refine W_imul d_50_38 ?_
      refine W_aload_n d_50_39 rfl (by decide) ?_
      refine W_getf d_50_40 o_50 k_3_9 rfl rfl ?_
      refine W_aload_n d_50_43 rfl (by decide) ?_
      refine W_getf d_50_44 o_50 k_3_28 rfl rfl ?_
      rw [hp]
      refine W_iald d_50_47 rfl (by decide) (vp_in_nI (by omega) (by decide)) (congrArg _ (nI_clamp (by omega))) ?_
      refine W_iadd d_50_48 ?_
      refine W_bipush d_50_49 (v := 48) (by decide) ?_
      refine W_isub d_50_51 ?_
      refine W_putf d_50_52 o_50 k_3_71 rfl (Nat.le_of_ble_eq_true rfl) rfl ms_rr5 ?_
      refine W_aload_n d_50_55 rfl (by decide) ?_
      refine W_dup d_50_56 rfl ?_
      refine W_getf d_50_57 o_50 k_3_28 rfl rfl ?_
      rw [show u2 B 1 4 (B 1 4 * 10 + B 0 i - 48) 1 1 = nI i from (u2_ot (by decide)).trans hp]
      refine W_iconst d_50_60 (v := 1) (by decide) ?_
      refine W_iadd d_50_61 ?_
      rw [show ((nI i + 1 : Int32)) = nI (i + 1) from nI_add i 1]
      refine W_putf d_50_62 o_50 k_3_28 rfl (Nat.le_of_ble_eq_true rfl) rfl ms_rr2 ?_
      refine W_goto (tgt := 5) d_50_65 (by decide) ?_
      have hf : pdg (B 0 i) = true := decide_eq_true (bI_t h28)
      have r1 : Rw B (u2 B 1 4 (B 1 4 * 10 + B 0 i - 48)) [1, 4] := Rw.u (by decide)
      have hr : Rw B (u2 (u2 B 1 4 (B 1 4 * 10 + B 0 i - 48)) 1 1 (nI (i + 1))) [1, 4] := r1.tr (Rw.u (W := [1, 4]) (by decide)) (fun c hc => ⟨hc, hc⟩)
      refine ih (i + 1) _ ((hr.2 0 (by decide)).trans hs) u2_at (by omega) (fun B' h1 h2 h3 => kk B' (hr.tr h1 (fun c hc => ⟨hc, hc⟩)) ?_ ?_)
      · rw [h2, hr.1, show spn pdg (B 0) (k + 1) i = spn pdg (B 0) k (i + 1) from by rw [spn, hf]; rfl]
      · rw [h3, hr.1, u2_ot (by decide), u2_at, show num (B 0) (k + 1) i (B 1 4) = num (B 0) k (i + 1) (B 1 4 * 10 + B 0 i - 48) from by rw [num, hf]; rfl]
end
