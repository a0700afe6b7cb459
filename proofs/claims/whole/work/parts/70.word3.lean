/-! TEXTS: the class reads a word, a number, from end to end (wip/whole/gen70.py) -/
section
variable {d : Nat} {g : mG} {N : Nat} {A T K : Nat → tR} {E : Nat → Int32} {l : Int64} {G : tR} {Qm : Nat → mC} {sz s : Nat}
theorem x_48 {B : tR} (hd : 5 ≤ d) (hz : sz ≤ 160) (h0 : B 1 0 = nI sz) (hp : B 1 1 = nI s) (hs : B 1 2 = nI s) (hsz : s ≤ sz) : Wp d 48 0 (ment 48 [.ref 55]) [] (N, H3 g (cc A T K B E l G) Qm) (fun v' M' => v' = none ∧ ∃ B', Rw B B' [1, 3] ∧ B' 1 1 = nI (spn plt (B 0) (sz - s) s) ∧ B' 1 3 = wsp (isw (B 0) s (spn plt (B 0) (sz - s) s)) 61 0 (-2) 0 0 ∧ M' = (N, H3 g (cc A T K B' E l G) Qm)) := by
  show Wp _ 48 0 [.ref 55, .null, .null, .null] [] _ _
  refine x_48l (by omega) hz (sz - s) s B h0 hp (by omega) (fun B1 r1 e1 => ?_)
  have hg := spn_ge plt (B 0) (sz - s) s
  refine W_aload_n d_48_39 rfl (by decide) ?_
  refine W_bipush d_48_40 (v := (-2)) (by decide) ?_
  refine W_putf d_48_42 o_48 k_3_41 rfl (Nat.le_of_ble_eq_true rfl) rfl ms_rr4 ?_
  refine W_iconst d_48_45 (v := 0) (by decide) ?_
  refine W_istore_n d_48_46 rfl ?_
  refine W_iconst d_48_47 (v := 0) (by decide) ?_
  refine W_istore_n d_48_48 rfl ?_
  refine W_iconst d_48_49 (v := 0) (by decide) ?_
  refine W_istore_n d_48_50 rfl ?_
  have hr : Rw B1 (u2 B1 1 3 (-2)) [3] := Rw.u (by decide)
  refine Wp.imp (x_48w (s := s) hd hg.1 (by omega) 61 0 0 0 (-2) (u2 B1 1 3 (-2)) (by omega) (Nat.le_refl _) ((hr.2 1 (by decide)).trans e1) ((hr.2 2 (by decide)).trans ((r1.2 2 (by decide)).trans hs)) u2_at) ?_
  rintro v' M' ⟨x1, B', x2, x3, x4⟩
  have r2 : Rw B1 B' [3] := hr.tr x2 (fun c hc => ⟨hc, hc⟩)
  refine ⟨x1, B', r1.tr r2 (fun c hc => ⟨fun q => hc (List.mem_cons.mpr (Or.inl (List.mem_singleton.mp q))), fun q => hc (List.mem_cons.mpr (Or.inr q))⟩), (r2.2 1 (by decide)).trans e1, ?_, x4⟩
  rw [x3, hr.1, r1.1]
end
