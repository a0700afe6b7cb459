/-! TEXTS: the class reads a number, from end to end (wip/whole/gen71.py) -/
section
variable {d : Nat} {g : mG} {N : Nat} {A T K : Nat → tR} {E : Nat → Int32} {l : Int64} {G : tR} {Qm : Nat → mC} {sz s : Nat}
theorem x_50 {B : tR} (hd : 5 ≤ d) (hz : sz ≤ 160) (h0 : B 1 0 = nI sz) (hp : B 1 1 = nI s) (hs : B 1 2 = nI s) (hsz : s ≤ sz) : Wp d 50 0 (ment 50 [.ref 55]) [] (N, H3 g (cc A T K B E l G) Qm) (fun v' M' => v' = none ∧ ∃ B', Rw B B' [1, 3, 4] ∧ B' 1 1 = nI (spn pdg (B 0) (sz - s) s) ∧ B' 1 3 = (if 4 < spn pdg (B 0) (sz - s) s - s then -2 else 12) ∧ B' 1 4 = num (B 0) (sz - s) s 0 ∧ M' = (N, H3 g (cc A T K B' E l G) Qm)) := by
  show Wp _ 50 0 [.ref 55] [] _ _
  refine W_aload_n d_50_0 rfl (by decide) ?_
  refine W_iconst d_50_1 (v := 0) (by decide) ?_
  refine W_putf d_50_2 o_50 k_3_71 rfl (Nat.le_of_ble_eq_true rfl) rfl ms_rr5 ?_
  have hr : Rw B (u2 B 1 4 0) [1, 3, 4] := Rw.u (by decide)
  refine x_50l (by omega) hz (sz - s) s (u2 B 1 4 0) ((hr.2 0 (by decide)).trans h0) ((u2_ot (by decide)).trans hp) (by omega) (fun B2 r1 hpe hv => ?_)
  have hr2 : Rw B B2 [1, 3, 4] := hr.tr r1 (fun c hc => ⟨hc, fun q => hc (by simp at q ⊢; omega)⟩)
  rw [hr.1] at hpe hv
  rw [u2_at] at hv
  have hse : B2 1 2 = nI s := (hr2.2 2 (by decide)).trans hs
  have hg := spn_ge pdg (B 0) (sz - s) s
  generalize spn pdg (B 0) (sz - s) s = e at hpe hg ⊢
  refine W_aload_n d_50_68 rfl (by decide) ?_
  refine W_aload_n d_50_69 rfl (by decide) ?_
  refine W_getf d_50_70 o_50 k_3_28 rfl rfl ?_
  rw [hpe]
  refine W_aload_n d_50_73 rfl (by decide) ?_
  refine W_getf d_50_74 o_50 k_3_38 rfl rfl ?_
  rw [hse]
  refine W_isub d_50_77 ?_
  rw [show ((nI e - nI s : Int32)) = nI (e - s) from pk_sub (a := e) (b := s) (by omega)]
  refine W_iconst d_50_78 (v := 4) (by decide) ?_
  refine W_icmp_le (tgt := 87) d_50_79 (by decide) (fun h79 => ?_) (fun h79 => ?_)
  · have q79 : e - s ≤ 4 := (nI_leI (a := e - s) (b := 4) (by omega) (by omega)).mp h79
    refine W_bipush d_50_87 (v := 12) (by decide) ?_
    refine W_putf d_50_89 o_50 k_3_41 rfl (Nat.le_of_ble_eq_true rfl) rfl ms_rr4 ?_
    refine W_ret d_50_92 rt_50 ?_
    refine ⟨rfl, _, hr2.tr (Rw.u (W := [1, 3, 4]) (by decide)) (fun c hc => ⟨hc, hc⟩), (u2_ot (by decide)).trans hpe, ?_, ?_, rfl⟩
    · rw [u2_at, if_neg (by omega)]
    · rw [u2_ot (by decide), hv]
  · have q79 : ¬ e - s ≤ 4 := mt (nI_leI (a := e - s) (b := 4) (by omega) (by omega)).mpr h79
    refine W_bipush d_50_82 (v := (-2)) (by decide) ?_
    refine W_goto (tgt := 89) d_50_84 (by decide) ?_
    refine W_putf d_50_89 o_50 k_3_41 rfl (Nat.le_of_ble_eq_true rfl) rfl ms_rr4 ?_
    refine W_ret d_50_92 rt_50 ?_
    refine ⟨rfl, _, hr2.tr (Rw.u (W := [1, 3, 4]) (by decide)) (fun c hc => ⟨hc, hc⟩), (u2_ot (by decide)).trans hpe, ?_, ?_, rfl⟩
    · rw [u2_at, if_pos (by omega)]
    · rw [u2_ot (by decide), hv]
end
