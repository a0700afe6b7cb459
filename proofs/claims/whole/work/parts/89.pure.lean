/-! THE LAW'S RUN, whole -/
theorem H92 {g : mG} {P : Nat → mC} : (92, H3 g P (ro g)) = HF g 92 (wP P) := by
  refine congrArg (Prod.mk 92) (funext fun k => ?_)
  show (if k < 92 then P k else if k < 117 then ro g k else ro g k) = if k < 92 then (if k < 92 then P k else mm z_Y z_S k) else ro g k
  by_cases q : k < 92
  · rw [if_pos q, if_pos q, if_pos q]
  · rw [if_neg q, if_neg q]
    by_cases q2 : k < 117
    · rw [if_pos q2]
    · rw [if_neg q2]
theorem MA_0 : EQ 0 (zt (MA (va_up z_Y 6 (pfx lwt 36)) (va_up z_S 11 36))) (zt (z_A 0)) := by
  intro a b hu
  unfold us at hu
  unfold zt
  rcases hu with hu | hu
  · omega
  · have : a = 9 ∨ a = 10 ∨ a = 11 ∨ a = 12 := by omega
    have h2 : b = 0 ∨ b = 1 ∨ b = 2 ∨ b = 3 ∨ b = 4 ∨ b = 5 := by omega
    rcases this with rfl | rfl | rfl | rfl <;> rcases h2 with rfl | rfl | rfl | rfl | rfl | rfl <;> rfl
theorem RL_0 {B' : tR} {T' : Nat → tR} {Y' : tR} {S' : Nat → Int32} (h1 : ∀ i, ¬ i = 0 → T' i = z_T i) (h2 : T' 0 1 0 = z_T 0 1 0) (h3 : LA (z_T 0) 0 (([2] : List Int32) ++ ([3, 10001, -6] : List Int32) ++ ([1] : List Int32)) (T' 0)) (h4 : T' 0 1 1 = nI 1) (h5 : T' 0 1 2 = nI 4) (h6 : T' 0 1 3 = nI 5) (hf : FX 0 WX (va_up z_Y 6 (pfx lwt 36)) (va_up z_S 11 36) Y' S') (h11 : S' 11 = 0) (h14 : S' 14 = nI 1) (y0 : Y' 8 0 = 0) (y1 : Y' 8 1 = nI 1) (y2 : Y' 8 2 = nI 4) (y3 : Y' 8 3 = nI 5) (yo : OC (Y' 7) 0 (([2] : List Int32).map cdm ++ ([3, 10001, -6] : List Int32).map cdm ++ ([1] : List Int32).map cdm)) : RL z_A T' z_K (u2 B' 1 0 0) (va_up z_E 1 1) Y' S' 0 0 0 1 0 (fun _ => zt3 1 3 1) := by
  have hi : ∀ k (hk : k < (([2] : List Int32) ++ ([3, 10001, -6] : List Int32) ++ ([1] : List Int32)).length), T' 0 0 k = (([2] : List Int32) ++ ([3, 10001, -6] : List Int32) ++ ([1] : List Int32))[k] := fun k hk => by
    have h := h3.2.2 k hk
    rw [Nat.zero_add] at h
    exact h
  have hLw : Lw (T' 0) (zt3 1 3 1) := Lw_3 (l0 := [2]) (l1 := [3, 10001, -6]) (l2 := [1]) h2 h4 h5 h6 (by decide) hi (by decide) (by decide) (by decide)
  have hLM : LM Y' 0 (T' 0) (zt3 1 3 1) := LM_3 (tc := 0) (l0 := [2]) (l1 := [3, 10001, -6]) (l2 := [1]) y0 y1 y2 y3 hi (by decide) yo
  refine ⟨⟨?_, rfl, by decide, rfl, by decide, rfl, by decide, hLw, hLM, fun j hj => absurd hj (Nat.not_lt_zero _)⟩, ⟨⟨by decide, fun i hi => ?_⟩, by decide, va_same _ _ _, h14, fun i hi => ?_⟩, ⟨fun j hj => absurd hj (Nat.not_lt_zero _), fun p hp => z0⟩, ⟨fun j hj => absurd hj (Nat.not_lt_zero _), z0⟩, fun s hs => ⟨?_, ?_, fun k hk => ?_⟩, fun s hs => ⟨0, by decide, rfl⟩, ⟨u2_at, h11, by decide, fun k hk => absurd hk (Nat.not_lt_zero _)⟩, ?_, Or.inl rfl, ?_⟩
  · rw [MA_x hf]
    exact MA_0
  · by_cases q : i = 0
    · rw [q]
      exact h2
    · rw [h1 i q]
      rfl
  · obtain rfl : i = 0 := by omega
    exact ⟨hLw, hLM⟩
  · rw [hf.1 11 (by decide), va_oth _ _ (by decide)]
    exact (pfx_v neg1 4 s).trans (if_pos hs)
  · rw [hf.1 12 (by decide), va_oth _ _ (by decide)]
    rfl
  · rw [hf.1 13 (by decide), va_oth _ _ (by decide)]
    rfl
  · rw [hf.2.2.2 16 (by decide)]
    rfl
  · rw [hf.1 15 (by decide), va_oth _ _ (by decide)]
    exact wdr_96
/-- over the small machine alone: the law answers 1 on every script -/
theorem pure_law (g : mG) (hL : gL g ≤ 3584) : ∃ (n : Nat) (M2 : mM), run 100 n 0 0 [.ref 1000, .null, .null, .null] [] (0, ro g) = some (some (.int 1), M2) ∧ M2.1 ≤ 1000 := by
  have key : Wp 100 0 0 [.ref 1000, .null, .null, .null] [] (0, ro g) (fun v M => v = some (.int 1) ∧ M.1 ≤ 1000) := by
    obtain ⟨_, _, x1, rfl, B', T', rfl, h1, h2, h3, h4, h5, h6⟩ := (x_83 (g := g) (d := 99) (by decide)).ex
    obtain ⟨_, _, x2, rfl, Y', S', rfl, hf, h11, h14, y0, y1, y2, y3, yo⟩ := (x_134 (g := g) (d := 99) (P := cc z_A T' z_K (u2 B' 1 0 0) (va_up z_E 1 1) 0 z_G) (by decide)).ex
    rw [HF_0 (h := hk)]
    refine W_new d_0_0 o_0 k_9_65543 (show 0 < 1000 by decide) HF_pushN ?_
    show Wp _ _ _ _ (.ref 0 :: _) (HF g 1 (va_up hk 0 (.inr (.inr (6, Dft 6))))) _
    refine W_dup d_0_3 rfl ?_
    refine W_callI d_0_4 o_0 (Or.inl k_9_9) (by decide) x1 rfl (show 0 < 1000 by decide) rfl (Nat.le_of_ble_eq_true rfl) ?_
    refine W_astore_n d_0_7 (by decide) rfl ?_
    rw [H92]
    refine W_new d_0_8 o_0 k_9_65546 (show 92 < 1000 by decide) HF_pushN ?_
    show Wp _ _ _ _ (.ref 92 :: _) (HF g 93 (va_up (wP _) 92 (.inr (.inr (7, Dft 7))))) _
    refine W_dup d_0_11 rfl ?_
    refine W_callI d_0_12 o_0 (Or.inl k_9_12) (by decide) x2 rfl (show 92 < 1000 by decide) rfl (Nat.le_of_ble_eq_true rfl) ?_
    refine W_astore_n d_0_15 (by decide) rfl ?_
    refine W_iconst d_0_16 (v := 0) (by decide) ?_
    refine W_istore_n d_0_17 rfl ?_
    refine law_loop (g := g) (d := 100) (by decide) hL (fun hR => st_3 hR (by decide)) (fun h hI => ?_) 3584 0 _ (by decide) (by omega) ⟨z_A, T', z_K, _, _, _, z_G, Y', S', 0, 0, 0, 1, 0, fun _ => zt3 1 3 1, rfl, RL_0 h1 h2 h3 h4 h5 h6 hf h11 h14 y0 y1 y2 y3 yo⟩
    obtain ⟨A, T, K, B, E, l, G, Y, S, n, p, t, tc, sz, zs, rfl, _⟩ := hI
    exact ⟨rfl, show 117 ≤ 1000 by decide⟩
  obtain ⟨n, v, M2, h, rfl, h2⟩ := key
  exact ⟨n, M2, h, h2⟩
