/-! BOTH TOGETHER: a text read by both -/
section
variable {g : mG} {d : Nat} {A T K : Nat → tR} {B : tR} {E : Nat → Int32} {l : Int64} {G : tR} {Y : tR} {S : Nat → Int32} {n p t tc sz : Nat} {zs : Nat → Nat → Nat}
theorem MA_x {tc : Nat} {Y' : tR} {S' : Nat → Int32} (h : FX tc WX Y S Y' S') : MA Y' S' = MA Y S := by
  unfold MA
  rw [h.1 0 (by decide), h.1 1 (by decide), h.1 2 (by decide), h.1 3 (by decide), h.1 4 (by decide), h.1 5 (by decide), h.1 19 (by decide), h.1 20 (by decide), h.2.2.2 0 (by decide), h.2.2.2 5 (by decide), h.2.2.2 8 (by decide), h.2.2.2 9 (by decide), h.2.2.2 15 (by decide), h.2.2.2 34 (by decide)]
theorem LM_x {tc i : Nat} {Y' : tR} {S' : Nat → Int32} {Lr : tR} {z : Nat → Nat} (h : FX tc WX Y S Y' S') (hi : i < tc) (hz : z 3 ≤ 160) (hM : LM Y i Lr z) : LM Y' i Lr z :=
  ⟨fun p hp => (h.2.2.1 _ (by omega)).trans (hM.1 p hp), fun k hk => ⟨(h.2.1 _ (by omega)).trans (hM.2 k hk).1, (hM.2 k hk).2⟩⟩
/-- the relation after a text: what stands besides the texts and the tape -/
theorem RL_x {T' : Nat → tR} {B' : tR} {E' : Nat → Int32} {Y' : tR} {S' : Nat → Int32} {tc' : Nat} {zs' : Nat → Nat → Nat} (h : RL A T K B E Y S n p t tc sz zs) (hf : FX tc WX Y S Y' S') (hT : T' t = T t) (hz : zs' t = zs t) (hx : TXT T' E' Y' S' t tc' zs') (htc : tc ≤ tc') (hE : E' 0 = E 0) (hb : B' 1 0 = 0) (h11 : S' 11 = 0) : RL A T' K B' E' Y' S' n p t tc' 0 zs' := by
  obtain ⟨a1, a2, a3, a4, a5, a6, a7, a8, a9, b1⟩ := h
  obtain ⟨m1, m2, m3, m4, m5, m6, m7, m8, m9, m10⟩ := a1
  refine ⟨⟨by rw [MA_x hf]; exact m1, m2, m3, m4, m5, m6, m7, by rw [hT, hz]; exact m8, by rw [hT, hz]; exact LM_x hf a2.1.1 m8.2.2.1 m9, m10⟩, hx, a3, a4, ?_, a6, ⟨hb, h11, by decide, fun k hk => absurd hk (Nat.not_lt_zero _)⟩, ?_, ?_, (hf.1 15 (by decide)).trans b1⟩
  · intro s hs
    rw [hf.1 11 (by decide), hf.1 12 (by decide), hf.1 13 (by decide)]
    exact a5 s hs
  · rw [hE, a8, hf.2.2.2 16 (by decide)]
  · rcases a9 with q | q
    · exact Or.inl (hE.trans q)
    · exact Or.inr (q.fr (Nat.le_refl _) htc (fun j _ => ⟨rfl, rfl⟩) (hf.1 9 (by decide)) (hf.1 10 (by decide)))
/-- both find the same fault -/
theorem st_3x {s : Nat} (hR : RL A T K B E Y S n p t tc sz zs) (h6 : tc < 6) (hd : 1 ≤ d) (hs : ¬ nI s = -1) (hc : Wp (d - 1) 38 0 (ment 38 [.ref 55, .ref (lb tc)]) [] (117, H3 g (cc A T K B E l G) (mm Y S)) (PR g 117 A K E l G (mm Y S) (nI s) (fun T' => (∀ i, ¬ i = tc → T' i = T i) ∧ T' tc 1 0 = T tc 1 0))) (hm : ∀ P, Wp d 154 0 (ment 154 [.ref 92]) [] (117, H3 g P (mm Y S)) (fun v M => v = some (.int (-100 - nI s)) ∧ ∃ Y' S', M = (117, H3 g P (mm Y' S')) ∧ FX tc WX Y S Y' S' ∧ S' 11 = 0 ∧ S' 14 = nI tc)) : St g d 87 154 [] (117, H3 g (cc A T K B E l G) (mm Y S)) := by
  have hx := hR.2.1
  obtain ⟨_, _, x1, B', T', rfl, rfl, f1, f2⟩ := (x_87a (N := 117) hd hx.2.2.1 h6 hs hc).ex
  obtain ⟨_, _, x2, rfl, Y', S', rfl, hf, h11, h14⟩ := (hm (cc A T' K (u2 B' 1 0 0) E l G)).ex
  refine ⟨_, _, _, _, _, x1, x2, A, T', K, _, E, l, G, Y', S', n, p, t, tc, 0, zs, rfl, RL_x hR hf (f1 t (by have := hx.1.1; omega)) rfl ?_ (Nat.le_refl _) rfl ((u2_at).trans rfl) h11⟩
  refine ⟨⟨hx.1.1, fun i hi => ?_⟩, hx.2.1, hx.2.2.1, h14, fun i hi => ?_⟩
  · by_cases q : i = tc
    · rw [q, f2]
      exact hx.1.2 tc h6
    · rw [f1 i q]
      exact hx.1.2 i hi
  · have k := hx.2.2.2.2 i hi
    rw [f1 i (by omega)]
    exact ⟨k.1, LM_x hf hi k.1.2.2.1 k.2⟩
theorem st_3 (hR : RL A T K B E Y S n p t tc sz zs) (hd : 80 ≤ d) : St g d 87 154 [] (117, H3 g (cc A T K B E l G) (mm Y S)) := by
  have hx := hR.2.1
  have hp := hR.2.2.2.2.2.2.1
  by_cases h6 : tc = 6
  · exact St_r hR (x_87f hx.2.2.1 h6) (x_154f (hx.2.2.2.1.trans (congrArg nI h6)))
  · have h6' : tc < 6 := by have := hx.2.1; omega
    obtain ⟨F, hF⟩ : ∃ F, 1000 ≤ F := ⟨1000, Nat.le_refl _⟩
    have hz := hp.2.2.1
    have hag : ∀ k, k < sz → B 0 k = Y 6 k := fun k hk => (hp.2.2.2 k hk).1
    have hby : ∀ k, k < sz → 0 ≤ B 0 k ∧ B 0 k ≤ 255 := fun k hk => by
      have h := (hp.2.2.2 k hk).2
      rw [Int32.le_iff_toInt_le, Int32.le_iff_toInt_le]
      exact h
    have hBH : BH (Y 6) sz tc Y S := ⟨rfl, hR.2.2.2.2.2.2.2.2.2, hp.2.1, hx.2.2.2.1, h6', hz, fun k hk => by rw [← hag k hk]; exact hby k hk⟩
    have hs0 : tst (B 0) sz 0 ≤ sz := (tst_b (Nat.zero_le _)).2
    have t0 : tst (Y 6) sz 0 = tst (B 0) sz 0 := (tst_x hag).symm
    have xp : ∀ p s, p < 3 → s ≤ sz → pprt (Y 6) sz F p s = pprt (B 0) sz F p s := fun p s h1 h2 => (pprt_x hag h1 h2).symm
    have hsm : ∀ s, s ≤ sz → ¬ nI s = -1 := fun s hs => nI_nm (by omega)
    obtain ⟨b0, s1, l0, r0⟩ := tri (pprt (B 0) sz F 0 (tst (B 0) sz 0))
    have m0 : pprt (Y 6) sz F 0 (tst (Y 6) sz 0) = (b0, s1, l0) := by rw [t0, xp 0 _ (by decide) hs0]; exact r0
    cases b0 with
    | false => exact st_3x (s := s1) hR h6' (by omega) (hsm _ (pprt_fb hs0 r0)) (x_38_0 hF h6' hz hby (by omega) rfl hp.1 r0) (fun P => x_154_0 hBH (by omega) hF m0)
    | true =>
      have q0 := pprt_ok (by decide) hs0 r0
      obtain ⟨b1, s2, l1, r1⟩ := tri (pprt (B 0) sz F 1 s1)
      have m1 : pprt (Y 6) sz F 1 s1 = (b1, s2, l1) := by rw [xp 1 _ (by decide) q0.2.1]; exact r1
      cases b1 with
      | false => exact st_3x (s := s2) hR h6' (by omega) (hsm _ (pprt_fb q0.2.1 r1)) (x_38_1 hF h6' hz hby (by omega) rfl hp.1 r0 r1) (fun P => x_154_1 hBH (by omega) hF m0 m1)
      | true =>
        have q1 := pprt_ok (by decide) q0.2.1 r1
        obtain ⟨b2, s3, l2, r2⟩ := tri (pprt (B 0) sz F 2 s2)
        have m2 : pprt (Y 6) sz F 2 s2 = (b2, s3, l2) := by rw [xp 2 _ (by decide) q1.2.1]; exact r2
        cases b2 with
        | false => exact st_3x (s := s3) hR h6' (by omega) (hsm _ (pprt_fb q1.2.1 r2)) (x_38_2 hF h6' hz hby (by omega) rfl hp.1 r0 r1 r2) (fun P => x_154_2 hBH (by omega) hF m0 m1 m2)
        | true =>
          have q2 := pprt_ok (by decide) q1.2.1 r2
          have te : tok (Y 6) sz s3 = tok (B 0) sz s3 := (tok_x hag q2.2.1).symm
          by_cases he : tok (B 0) sz s3 = -1
          · obtain ⟨_, _, x1, B', T', rfl, rfl, f1, f2, f3, f4, f5, f6⟩ := (x_87b (N := 117) (d := d) (by omega) hx.2.2.1 h6' (x_38_3 (d := d - 1) (l := l) (G := G) (A := A) (K := K) (E := E) (g := g) (Qm := mm Y S) hF h6' hz hby (by omega) rfl hp.1 r0 r1 r2 he)).ex
            obtain ⟨_, _, x2, rfl, Y', S', rfl, hf, h11, h14, y0, y1, y2, y3, yo⟩ := (x_154_3 (g := g) (N := 117) (P := cc A T' K (u2 B' 1 0 0) (va_up E 1 (nI (tc + 1))) l G) hBH (d := d) (by omega) hF m0 m1 m2 (te.trans he)).ex
            have hi : ∀ k (hk : k < (l0 ++ l1 ++ l2).length), T' tc 0 k = (l0 ++ l1 ++ l2)[k] := fun k hk => by
              have h := f3.2.2 k hk
              rw [Nat.zero_add] at h
              exact h
            have k0 := pprt_sk (by decide) hs0 r0
            have k1 := pprt_sk (by decide) q0.2.1 r1
            have k2 := pprt_sk (by decide) q1.2.1 r2
            have hT0 : T' tc 1 0 = 0 := f2.trans (hx.1.2 tc h6')
            have hLw : Lw (T' tc) (zt3 l0.length l1.length l2.length) := Lw_3 hT0 f4 f5 f6 (by omega) hi k0.2 k1.2 k2.2
            have hLM : LM Y' tc (T' tc) (zt3 l0.length l1.length l2.length) := LM_3 y0 y1 y2 y3 hi (fun x hx => (List.mem_append.mp hx).elim (fun q => (List.mem_append.mp q).elim (k0.1 x) (k1.1 x)) (k2.1 x)) yo
            refine ⟨_, _, _, _, _, x1, x2, A, T', K, _, _, l, G, Y', S', n, p, t, tc + 1, 0, fun i => if i = tc then zt3 l0.length l1.length l2.length else zs i, rfl, RL_x hR hf (f1 t (by have := hx.1.1; omega)) (if_neg (by have := hx.1.1; omega)) ?_ (Nat.le_succ _) (va_oth _ _ (by decide)) u2_at h11⟩
            refine ⟨⟨by have := hx.1.1; omega, fun i hi => ?_⟩, h6', va_same _ _ _, h14, fun i hi => ?_⟩
            · by_cases q : i = tc
              · rw [q]
                exact hT0
              · rw [f1 i q]
                exact hx.1.2 i hi
            · by_cases q : i = tc
              · subst q
                show Lw (T' i) (if i = i then _ else _) ∧ LM Y' i (T' i) (if i = i then _ else _)
                rw [if_pos rfl]
                exact ⟨hLw, hLM⟩
              · have k := hx.2.2.2.2 i (by omega)
                show Lw (T' i) (if i = tc then _ else _) ∧ LM Y' i (T' i) (if i = tc then _ else _)
                rw [if_neg q, f1 i q]
                exact ⟨k.1, LM_x hf (by omega) k.1.2.2.1 k.2⟩
          · exact st_3x (s := s3) hR h6' (by omega) (hsm _ q2.2.1) (x_38_4 hF h6' hz hby (by omega) rfl hp.1 r0 r1 r2 he) (fun P => x_154_4 hBH (by omega) hF m0 m1 m2 (fun q => he (te.symm.trans q)))
end
