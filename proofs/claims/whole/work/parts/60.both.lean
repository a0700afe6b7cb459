/-! BOTH TOGETHER: what holds between two calls; the calls that only ask (wip/whole/gen60.py) -/
/-- KINDS, THE HOUR -/
def KB (n : Nat) (R : tR) : Prop := (∀ j, j < n → ∃ k, k < 6 ∧ R 0 j = nI k) ∧ 0 ≤ (R 12 2).toInt ∧ (R 12 2).toInt ≤ 999
/-- the image, if there is one -/
def IMG (R Rk Y : tR) (n tc : Nat) : Prop := ∃ nk pk_ tk, Rk 12 0 = nI nk ∧ nk ≤ n ∧ Rk 12 1 = nI pk_ ∧ pk_ ≤ 6 ∧ Rk 12 4 = nI tk ∧ tk < tc ∧ WB nk Rk ∧ KB nk Rk ∧ (∀ j, j < nk → Rk 0 j = R 0 j ∧ Rk 1 j = R 1 j) ∧ (∀ j, j < nk → Y 9 (5 * j) = Rk 2 j ∧ Y 9 (5 * j + 1) = Rk 3 j ∧ Y 9 (5 * j + 2) = Rk 4 j ∧ Y 9 (5 * j + 3) = Rk 5 j ∧ Y 9 (5 * j + 4) = Rk 6 j) ∧ (∀ k, k < 6 → Y 9 (60 + k) = Rk 9 k ∧ Y 9 (66 + k) = Rk 10 k ∧ Y 9 (72 + k) = Rk 11 k) ∧ Y 10 0 = Rk 12 0 ∧ Y 10 1 = Rk 12 1 ∧ Y 10 2 = Rk 12 2 ∧ Y 10 3 = Rk 12 3 ∧ Y 10 4 = Rk 12 4
def wdr : Nat → Int32 := fun k => ([102, 97, 108, 108, 115, 32, 32, 32, 116, 97, 107, 101, 115, 32, 32, 32, 108, 105, 102, 116, 115, 32, 32, 32, 104, 111, 117, 114, 32, 32, 32, 32, 119, 97, 108, 108, 32, 32, 32, 32, 109, 111, 114, 101, 32, 32, 32, 32, 104, 101, 97, 112, 32, 32, 32, 32, 103, 97, 116, 101, 32, 32, 32, 32, 112, 97, 115, 115, 101, 115, 32, 32, 111, 114, 32, 32, 32, 32, 32, 32, 97, 110, 100, 32, 32, 32, 32, 32, 110, 111, 116, 32, 32, 32, 32, 32] : List Int32).getD k 0
/-- the texts -/
def TXT (T : Nat → tR) (E : Nat → Int32) (Y : tR) (S : Nat → Int32) (t tc : Nat) (zs : Nat → Nat → Nat) : Prop := (t < tc ∧ ∀ i, i < 6 → T i 1 0 = 0) ∧ tc ≤ 6 ∧ E 1 = nI tc ∧ S 14 = nI tc ∧ ∀ i, i < tc → Lw (T i) (zs i) ∧ LM Y i (T i) (zs i)
/-- the tape -/
def TAP (B Y : tR) (S : Nat → Int32) (sz : Nat) : Prop := B 1 0 = nI sz ∧ S 11 = nI sz ∧ sz ≤ 160 ∧ ∀ k, k < sz → B 0 k = Y 6 k ∧ 0 ≤ (B 0 k).toInt ∧ (B 0 k).toInt ≤ 255
def SHS (K : Nat → tR) : Prop := ∀ s, s < 4 → ∃ c, c ≤ 40 ∧ K s 1 1 = nI c
/-- class and reference, alike -/
def RL (A T K : Nat → tR) (B : tR) (E : Nat → Int32) (Y : tR) (S : Nat → Int32) (n p t tc sz : Nat) (zs : Nat → Nat → Nat) : Prop :=
  MS Y S (A 0) (T t) (zs t) n p t ∧ TXT T E Y S t tc zs ∧ WB n (A 0) ∧ KB n (A 0) ∧ SHR K Y ∧ SHS K ∧ TAP B Y S sz ∧ E 0 = S 16 ∧ (E 0 = 0 ∨ IMG (A 0) (A 2) Y n tc) ∧ Y 15 = wdr
def Inv (g : mG) (h : mM) : Prop := ∃ A T K B E l G Y S n p t tc sz zs, h = (117, H3 g (cc A T K B E l G) (mm Y S)) ∧ RL A T K B E Y S n p t tc sz zs
def St (g : mG) (d zc zm : Nat) (vs : List Value) (h : mM) : Prop := ∃ v P Y0 S0 h', Ex d zc (.ref 0 :: vs) h (some (.int v)) (117, H3 g P (mm Y0 S0)) ∧ Ex d zm (.ref 92 :: vs) (117, H3 g P (mm Y0 S0)) (some (.int v)) h' ∧ Inv g h'
def StL (g : mG) (d zc zm : Nat) (vs : List Value) (h : mM) : Prop := ∃ v P Y0 S0 h', Ex d zc (.ref 0 :: vs) h (some (.long v)) (117, H3 g P (mm Y0 S0)) ∧ Ex d zm (.ref 92 :: vs) (117, H3 g P (mm Y0 S0)) (some (.long v)) h' ∧ Inv g h'
section
variable {g : mG} {d zc zm : Nat} {vs : List Value} {A T K : Nat → tR} {B : tR} {E : Nat → Int32} {l : Int64} {G : tR} {Y : tR} {S : Nat → Int32} {n p t tc sz : Nat} {zs : Nat → Nat → Nat}
theorem RL.cx (h : RL A T K B E Y S n p t tc sz zs) : CX (A 0) T (zs t) n p t := by
  obtain ⟨hq, hn, hn12, hp, hp6, hlw, ht, hL, hM, hB⟩ := h.1
  exact ⟨hn, hn12, hp, hp6, hlw, ht, hL⟩
theorem IMG.fr {R R' Rk Y Y' : tR} {n n' tc tc' : Nat} (h : IMG R Rk Y n tc) (hn : n ≤ n') (ht : tc ≤ tc') (hR : ∀ j, j < n → R' 0 j = R 0 j ∧ R' 1 j = R 1 j) (h9 : Y' 9 = Y 9) (h10 : Y' 10 = Y 10) : IMG R' Rk Y' n' tc' := by
  obtain ⟨nk, pk_, tk, a1, a2, a3, a4, a5, a6, a7, a8, a9, b⟩ := h
  refine ⟨nk, pk_, tk, a1, by omega, a3, a4, a5, by omega, a7, a8, fun j hj => ?_, ?_⟩
  · rw [(hR j (by omega)).1, (hR j (by omega)).2]; exact a9 j hj
  · rw [h9, h10]; exact b
theorem TXT.fr {Y' : tR} {S' : Nat → Int32} (h : TXT T E Y S t tc zs) (hf : FRm Y S Y' S') : TXT T E Y' S' t tc zs :=
  ⟨h.1, h.2.1, h.2.2.1, hf.2.2.1.trans h.2.2.2.1, fun i hi => ⟨(h.2.2.2.2 i hi).1, hf.lm (h.2.2.2.2 i hi).2⟩⟩
theorem TAP.fr {Y' : tR} {S' : Nat → Int32} (h : TAP B Y S sz) (hf : FRm Y S Y' S') : TAP B Y' S' sz :=
  ⟨h.1, hf.2.1.trans h.2.1, h.2.2.1, fun k hk => ⟨(h.2.2.2 k hk).1.trans (congrFun (hf.1 6 (by decide)) k).symm, (h.2.2.2 k hk).2⟩⟩
/-- a new road, all else as it was -/
theorem RL.road {A' : Nat → tR} {Y' : tR} {S' : Nat → Int32} {n' p' : Nat} (h : RL A T K B E Y S n p t tc sz zs) (hf : FRm Y S Y' S') (hm : MS Y' S' (A' 0) (T t) (zs t) n' p' t) (hw : WB n' (A' 0)) (hk : KB n' (A' 0)) (hn : n ≤ n') (h2 : A' 2 = A 2) (hR : ∀ j, j < n → A' 0 0 j = A 0 0 j ∧ A' 0 1 j = A 0 1 j) : RL A' T K B E Y' S' n' p' t tc sz zs := by
  obtain ⟨a1, a2, a3, a4, a5, a6, a7, a8, a9, b1⟩ := h
  refine ⟨hm, a2.fr hf, hw, hk, hf.shr a5, a6, a7.fr hf, a8.trans hf.2.2.2.symm, ?_, (hf.1 15 (by decide)).trans b1⟩
  rcases a9 with q | q
  · exact Or.inl q
  · rw [h2]
    exact Or.inr (q.fr hn (Nat.le_refl _) hR (hf.1 9 (by decide)) (hf.1 10 (by decide)))
theorem RL.ro {A' : Nat → tR} {Y' : tR} {S' : Nat → Int32} (h : RL A T K B E Y S n p t tc sz zs) (hA : ∀ r, ¬ r = 1 → A' r = A r) (hf : FRq Y S Y' S') : RL A' T K B E Y' S' n p t tc sz zs := by
  have e0 := hA 0 (by decide)
  refine h.road hf.m (by rw [e0]; exact h.1.q hf) (by rw [e0]; exact h.2.2.1) (by rw [e0]; exact h.2.2.2.1) (Nat.le_refl _) (hA 2 (by decide)) (fun j _ => by rw [e0]; exact ⟨rfl, rfl⟩)
theorem Wp.ex {z : Nat} {us : List Value} {M : mM} {Q : Option Value → mM → Prop} (h : Wp d z 0 (ment z us) [] M Q) : ∃ v M2, Ex d z us M v M2 ∧ Q v M2 := by
  obtain ⟨k, v, M2, h1, h2⟩ := h
  exact ⟨v, M2, ⟨k, h1⟩, h2⟩
theorem St_r {v : Int32} (hR : RL A T K B E Y S n p t tc sz zs) (h1 : Ex d zc (.ref 0 :: vs) (117, H3 g (cc A T K B E l G) (mm Y S)) (some (.int v)) (117, H3 g (cc A T K B E l G) (mm Y S))) (h2 : Ex d zm (.ref 92 :: vs) (117, H3 g (cc A T K B E l G) (mm Y S)) (some (.int v)) (117, H3 g (cc A T K B E l G) (mm Y S))) : St g d zc zm vs (117, H3 g (cc A T K B E l G) (mm Y S)) :=
  ⟨v, _, _, _, _, h1, h2, A, T, K, B, E, l, G, Y, S, n, p, t, tc, sz, zs, rfl, hR⟩
theorem StL_r {v : Int64} (hR : RL A T K B E Y S n p t tc sz zs) (h1 : Ex d zc (.ref 0 :: vs) (117, H3 g (cc A T K B E l G) (mm Y S)) (some (.long v)) (117, H3 g (cc A T K B E l G) (mm Y S))) (h2 : Ex d zm (.ref 92 :: vs) (117, H3 g (cc A T K B E l G) (mm Y S)) (some (.long v)) (117, H3 g (cc A T K B E l G) (mm Y S))) : StL g d zc zm vs (117, H3 g (cc A T K B E l G) (mm Y S)) :=
  ⟨v, _, _, _, _, h1, h2, A, T, K, B, E, l, G, Y, S, n, p, t, tc, sz, zs, rfl, hR⟩
theorem St_q {v : Int32} (hR : RL A T K B E Y S n p t tc sz zs) (hc : Wp d zc 0 (ment zc (.ref 0 :: vs)) [] (117, H3 g (cc A T K B E l G) (mm Y S)) (fun v' M' => v' = some (.int v) ∧ ∃ A' l' G', M' = (117, H3 g (cc A' T K B E l' G') (mm Y S)) ∧ ∀ r, ¬ r = 1 → A' r = A r)) (hm : ∀ P, Wp d zm 0 (ment zm (.ref 92 :: vs)) [] (117, H3 g P (mm Y S)) (fun v' M' => v' = some (.int v) ∧ ∃ Y' S', M' = (117, H3 g P (mm Y' S')) ∧ FRq Y S Y' S')) : St g d zc zm vs (117, H3 g (cc A T K B E l G) (mm Y S)) := by
  obtain ⟨_, _, x1, rfl, A', l', G', rfl, hA⟩ := hc.ex
  obtain ⟨_, _, x2, rfl, Y', S', rfl, hf⟩ := (hm (cc A' T K B E l' G')).ex
  exact ⟨v, _, _, _, _, x1, x2, A', T, K, B, E, l', G', Y', S', n, p, t, tc, sz, zs, rfl, hR.ro hA hf⟩
theorem StL_q {v : Int64} (hR : RL A T K B E Y S n p t tc sz zs) (hc : Wp d zc 0 (ment zc (.ref 0 :: vs)) [] (117, H3 g (cc A T K B E l G) (mm Y S)) (fun v' M' => v' = some (.long v) ∧ ∃ A' l' G', M' = (117, H3 g (cc A' T K B E l' G') (mm Y S)) ∧ ∀ r, ¬ r = 1 → A' r = A r)) (hm : ∀ P, Wp d zm 0 (ment zm (.ref 92 :: vs)) [] (117, H3 g P (mm Y S)) (fun v' M' => v' = some (.long v) ∧ ∃ Y' S', M' = (117, H3 g P (mm Y' S')) ∧ FRq Y S Y' S')) : StL g d zc zm vs (117, H3 g (cc A T K B E l G) (mm Y S)) := by
  obtain ⟨_, _, x1, rfl, A', l', G', rfl, hA⟩ := hc.ex
  obtain ⟨_, _, x2, rfl, Y', S', rfl, hf⟩ := (hm (cc A' T K B E l' G')).ex
  exact ⟨v, _, _, _, _, x1, x2, A', T, K, B, E, l', G', Y', S', n, p, t, tc, sz, zs, rfl, hR.ro hA hf⟩
theorem h48 {w : Int32} (h : 0 ≤ w ∧ w ≤ 48) : ∃ m, m ≤ 48 ∧ w = nI m := nI_of2 (x := w) (M := 48) (n := 48) rfl (Int32.not_lt.mpr h.1) h.2
theorem two01 {w : Int32} (h : 0 ≤ w ∧ w ≤ 2) : w = 0 ∨ w = 1 ∨ w = 2 := by
  simp only [← Int32.toInt_inj, Int32.le_iff_toInt_le, show (0 : Int32).toInt = 0 from rfl, show (1 : Int32).toInt = 1 from rfl, show (2 : Int32).toInt = 2 from rfl] at *
  omega
theorem st_13 (hR : RL A T K B E Y S n p t tc sz zs) (hd : 20 ≤ d) {v w : Int32} : St g d 97 184 [.int v, .int w] (117, H3 g (cc A T K B E l G) (mm Y S)) := by
  have hX := hR.cx
  have hn : A 0 12 0 = nI n := hX.1
  have hn12 := hX.2.1
  have hS0 := hR.1.n0
  have hS5 := hR.1.p0
  have hK := hR.2.2.2.2.1
  have hW := hR.2.2.1
  by_cases hv : 0 ≤ v ∧ v ≤ 48
  · obtain ⟨m, hm, rfl⟩ := h48 hv
    by_cases hw : 0 ≤ w ∧ w ≤ 4
    · exact St_q hR (p_97 rfl rfl hX hm hw (by omega)) (fun P => q_184 hR.1 hW hm hw (by omega))
    · by_cases hj : ∃ j k, j < n ∧ k < 3 ∧ w = nI (10 + 20 * k + j)
      · obtain ⟨j, k, hj, hk, rfl⟩ := hj
        have hk3 : k = 0 ∨ k = 1 ∨ k = 2 := by omega
        rcases hk3 with rfl | rfl | rfl
        · exact St_q (v := gon (A 0) (T t) (zs t) n p m 7 j) hR (p_97o (k := 0) rfl rfl hX hm hj (by decide) (by omega)) (fun P => q_184a hR.1 hW hm hj (by omega))
        · exact St_q (v := gon (A 0) (T t) (zs t) n p m 8 j) hR (p_97o (k := 1) rfl rfl hX hm hj (by decide) (by omega)) (fun P => q_184b hR.1 hW hm hj (by omega))
        · exact St_q (v := gon (A 0) (T t) (zs t) n p m 2 j) hR (p_97o (k := 2) rfl rfl hX hm hj (by decide) (by omega)) (fun P => q_184c hR.1 hW hm hj (by omega))
      · have key : ∀ c : Nat, c ≤ 100 → ∀ lo, (∃ k, k < 3 ∧ lo = 10 + 20 * k) → ¬ (nI lo ≤ w ∧ w ≤ nI (lo - 1 + n)) := by
          intro c _ lo ⟨k, hk, hlo⟩ ⟨h1, h2⟩
          obtain ⟨e, he, rfl⟩ := nI_of (x := w) (Int32.not_lt.mpr (Int32.le_trans (nI_pos' (by omega)) h1))
          have h3 := (nI_leI (a := lo) (b := e) (by omega) he).mp h1
          have h4 := (nI_leI (a := e) (b := lo - 1 + n) he (by omega)).mp h2
          exact hj ⟨e - lo, k, by omega, hk, congrArg nI (by omega)⟩
        have k1 : ¬ (10 ≤ w ∧ w ≤ nI (9 + n)) := key 0 (by decide) 10 ⟨0, by decide, rfl⟩
        have k2 : ¬ (30 ≤ w ∧ w ≤ nI (29 + n)) := key 0 (by decide) 30 ⟨1, by decide, rfl⟩
        have k3 : ¬ (50 ≤ w ∧ w ≤ nI (49 + n)) := key 0 (by decide) 50 ⟨2, by decide, rfl⟩
        have hm' := q_184w (d := d) (g := g) (N := 117) (P := cc A T K B E l G) hR.1 hW hm hw k1 k2 k3 (by omega)
        by_cases h10 : 10 ≤ w ∧ w < 70
        · exact St_r hR (p_97c rfl rfl hX hm hw h10 (fun j k hj' hk e => hj ⟨j, k, hj', hk, e⟩) (by omega)) hm'
        · exact St_r hR (p_97b rfl rfl hm hw h10 (by omega)) hm'
  · exact St_r hR (p_97a rfl rfl hv (by omega)) (q_184r hR.1 hW hv (by omega))
theorem st_14 (hR : RL A T K B E Y S n p t tc sz zs) (hd : 20 ≤ d) {v w u : Int32} : St g d 99 186 [.int v, .int w, .int u] (117, H3 g (cc A T K B E l G) (mm Y S)) := by
  have hX := hR.cx
  have hn : A 0 12 0 = nI n := hX.1
  have hn12 := hX.2.1
  have hS0 := hR.1.n0
  have hS5 := hR.1.p0
  have hK := hR.2.2.2.2.1
  have hW := hR.2.2.1
  by_cases hg : 0 ≤ v ∧ v < nI n
  · by_cases hb : (0 ≤ w ∧ w ≤ 48) ∧ ((0 ≤ u ∧ u ≤ 11) ∧ i_mod u 10 ≤ 1)
    · obtain ⟨j, hj, rfl⟩ := own_ix hg hn12
      obtain ⟨m, hm, rfl⟩ := h48 hb.1
      exact St_q hR (p_99 rfl rfl hX hm hj hb.2 (by omega)) (fun P => q_186 hR.1 hW hm hj hb.2 (by omega))
    · exact St_r hR (p_99b rfl rfl (by rw [hn]; exact hg) hb (by omega)) (q_186b hR.1 hW hg hb (by omega))
  · exact St_r hR (p_99a rfl rfl (by rw [hn]; exact hg) (by omega)) (q_186a hR.1 hW hg (by omega))
theorem st_15 (hR : RL A T K B E Y S n p t tc sz zs) (hd : 20 ≤ d) {v w u : Int32} : St g d 100 187 [.int v, .int w, .int u] (117, H3 g (cc A T K B E l G) (mm Y S)) := by
  have hX := hR.cx
  have hn : A 0 12 0 = nI n := hX.1
  have hn12 := hX.2.1
  have hS0 := hR.1.n0
  have hS5 := hR.1.p0
  have hK := hR.2.2.2.2.1
  have hW := hR.2.2.1
  by_cases hg : 0 ≤ v ∧ v < nI n
  · by_cases hb : (0 ≤ w ∧ w ≤ 48) ∧ (0 ≤ u ∧ u ≤ 9999)
    · obtain ⟨j, hj, rfl⟩ := own_ix hg hn12
      obtain ⟨m, hm, rfl⟩ := h48 hb.1
      exact St_q hR (p_100 rfl rfl hX hm hj hb.2 (by omega)) (fun P => q_187 hR.1 hW hm hj hb.2 (by omega))
    · exact St_r hR (p_100b rfl rfl (by rw [hn]; exact hg) hb (by omega)) (q_187b hR.1 hW hg hb (by omega))
  · exact St_r hR (p_100a rfl rfl (by rw [hn]; exact hg) (by omega)) (q_187a hR.1 hW hg (by omega))
theorem st_16 (hR : RL A T K B E Y S n p t tc sz zs) (hd : 20 ≤ d) {v w : Int32} : St g d 101 188 [.int v, .int w] (117, H3 g (cc A T K B E l G) (mm Y S)) := by
  have hX := hR.cx
  have hn : A 0 12 0 = nI n := hX.1
  have hn12 := hX.2.1
  have hS0 := hR.1.n0
  have hS5 := hR.1.p0
  have hK := hR.2.2.2.2.1
  have hW := hR.2.2.1
  by_cases hb : (0 ≤ v ∧ v ≤ 48) ∧ 0 ≤ w ∧ w ≤ 1
  · obtain ⟨m, hm, rfl⟩ := h48 hb.1
    exact St_q hR (p_101 rfl rfl hX hm hb.2 (by omega)) (fun P => q_188 hR.1 hW hm hb.2 (by omega))
  · exact St_r hR (p_101b rfl rfl (v := v) (w := w) (gw := 0) hb (by omega)) (q_188b hR.1 hW (v := v) (w := w) (gw := 0) hb (by omega))
theorem st_17 (hR : RL A T K B E Y S n p t tc sz zs) (hd : 20 ≤ d) {v w : Int32} : St g d 102 189 [.int v, .int w] (117, H3 g (cc A T K B E l G) (mm Y S)) := by
  have hX := hR.cx
  have hn : A 0 12 0 = nI n := hX.1
  have hn12 := hX.2.1
  have hS0 := hR.1.n0
  have hS5 := hR.1.p0
  have hK := hR.2.2.2.2.1
  have hW := hR.2.2.1
  by_cases hb : (0 ≤ v ∧ v ≤ 48) ∧ ((0 ≤ w ∧ w ≤ 11) ∧ i_mod w 10 ≤ 1)
  · obtain ⟨m, hm, rfl⟩ := h48 hb.1
    exact St_q hR (p_102 rfl rfl hX hm hb.2 (by omega)) (fun P => q_189 hR.1 hW hm hb.2 (by omega))
  · exact St_r hR (p_102b rfl rfl (v := v) (gw := w) (w := 0) hb (by omega)) (q_189b hR.1 hW (v := v) (gw := w) (w := 0) hb (by omega))
theorem st_18 (hR : RL A T K B E Y S n p t tc sz zs) (hd : 20 ≤ d) {v w u : Int32} : St g d 103 190 [.int v, .int w, .int u] (117, H3 g (cc A T K B E l G) (mm Y S)) := by
  have hX := hR.cx
  have hn : A 0 12 0 = nI n := hX.1
  have hn12 := hX.2.1
  have hS0 := hR.1.n0
  have hS5 := hR.1.p0
  have hK := hR.2.2.2.2.1
  have hW := hR.2.2.1
  by_cases hg : 0 ≤ v ∧ v < nI n
  · by_cases hb : (0 ≤ w ∧ w ≤ 48) ∧ 0 ≤ u ∧ u ≤ 1
    · obtain ⟨j, hj, rfl⟩ := own_ix hg hn12
      obtain ⟨m, hm, rfl⟩ := h48 hb.1
      exact St_q hR (p_103 rfl rfl hX hm hj hb.2 (by omega)) (fun P => q_190 hR.1 hW hm hj hb.2 (by omega))
    · exact St_r hR (p_103b rfl rfl (by rw [hn]; exact hg) hb (by omega)) (q_190b hR.1 hW hg hb (by omega))
  · exact St_r hR (p_103a rfl rfl (by rw [hn]; exact hg) (by omega)) (q_190a hR.1 hW hg (by omega))
theorem st_19 (hR : RL A T K B E Y S n p t tc sz zs) (hd : 20 ≤ d) {v w u : Int32} : St g d 104 191 [.int v, .int w, .int u] (117, H3 g (cc A T K B E l G) (mm Y S)) := by
  have hX := hR.cx
  have hn : A 0 12 0 = nI n := hX.1
  have hn12 := hX.2.1
  have hS0 := hR.1.n0
  have hS5 := hR.1.p0
  have hK := hR.2.2.2.2.1
  have hW := hR.2.2.1
  by_cases hg : 0 ≤ v ∧ v < nI n
  · by_cases hb : (0 ≤ w ∧ w ≤ 48) ∧ 0 ≤ u ∧ u ≤ 1
    · obtain ⟨j, hj, rfl⟩ := own_ix hg hn12
      obtain ⟨m, hm, rfl⟩ := h48 hb.1
      by_cases h2 : 2 ≤ n
      · exact St_q hR (p_104 rfl rfl hX hm hj h2 hb.2 (by omega)) (fun P => q_191 hR.1 hW hm hj h2 hb.2 (by omega))
      · exact St_q hR ((p_104n rfl rfl hX hm hj h2 hb.2 (by omega)).wp ⟨rfl, A, l, G, rfl, fun _ _ => rfl⟩) (fun P => q_191n hR.1 hW hm hj h2 hb.2 (by omega))
    · exact St_r hR (p_104b rfl rfl (by rw [hn]; exact hg) hb (by omega)) (q_191b hR.1 hW hg hb (by omega))
  · exact St_r hR (p_104a rfl rfl (by rw [hn]; exact hg) (by omega)) (q_191a hR.1 hW hg (by omega))
theorem st_20 (hR : RL A T K B E Y S n p t tc sz zs) (hd : 20 ≤ d) {v w : Int32} : St g d 106 195 [.int v, .int w] (117, H3 g (cc A T K B E l G) (mm Y S)) := by
  have hX := hR.cx
  have hn : A 0 12 0 = nI n := hX.1
  have hn12 := hX.2.1
  have hS0 := hR.1.n0
  have hS5 := hR.1.p0
  have hK := hR.2.2.2.2.1
  have hW := hR.2.2.1
  by_cases hr : rfv K n v = 0
  · by_cases hb : 0 ≤ w ∧ w ≤ 48
    · obtain ⟨s, hs, rfl, _, _⟩ := rfv_ok hr
      obtain ⟨m, hm, rfl⟩ := h48 hb
      exact St_q hR (p_106 rfl rfl hX hm hs hr (by omega)) (fun P => q_195 hR.1 hW hK hm hs hr (by omega))
    · exact St_r hR (p_106b rfl rfl hX hr hb (by omega)) (q_195b hR.1 hW hK hr hb (by omega))
  · exact St_r hR (p_106a rfl rfl hX hr (by omega)) (q_195a hR.1 hW hK hr (by omega))
theorem st_21 (hR : RL A T K B E Y S n p t tc sz zs) (hd : 20 ≤ d) {v w u x : Int32} : St g d 107 196 [.int v, .int w, .int u, .int x] (117, H3 g (cc A T K B E l G) (mm Y S)) := by
  have hX := hR.cx
  have hn : A 0 12 0 = nI n := hX.1
  have hn12 := hX.2.1
  have hS0 := hR.1.n0
  have hS5 := hR.1.p0
  have hK := hR.2.2.2.2.1
  have hW := hR.2.2.1
  by_cases hr : rfv K n v = 0
  · by_cases hg : 0 ≤ u ∧ u < nI n
    · by_cases hb : (0 ≤ w ∧ w ≤ 48) ∧ 0 ≤ x ∧ x ≤ 2
      · obtain ⟨s, hs, rfl, _, _⟩ := rfv_ok hr
        obtain ⟨m, hm, rfl⟩ := h48 hb.1
        obtain ⟨j, hj, rfl⟩ := own_ix hg hn12
        rcases two01 hb.2 with rfl | rfl | rfl
        · exact St_q hR (p_107_0 rfl rfl hX hm hs hr hj (by omega)) (fun P => q_196_0 hR.1 hW hK hm hs hr hj (by omega))
        · exact St_q hR (p_107_1 rfl rfl hX hm hs hr hj (by omega)) (fun P => q_196_1 hR.1 hW hK hm hs hr hj (by omega))
        · exact St_q hR (p_107_2 rfl rfl hX hm hs hr hj (by omega)) (fun P => q_196_2 hR.1 hW hK hm hs hr hj (by omega))
      · exact St_r hR (p_107c rfl rfl hX hr (by rw [hn]; exact hg) hb (by omega)) (q_196c hR.1 hW hK hr hg hb (by omega))
    · exact St_r hR (p_107b rfl rfl hX hr (by rw [hn]; exact hg) (by omega)) (q_196b hR.1 hW hK hr hg (by omega))
  · exact St_r hR (p_107a rfl rfl hX hr (by omega)) (q_196a hR.1 hW hK hr (by omega))
theorem st_22 (hR : RL A T K B E Y S n p t tc sz zs) (hd : 20 ≤ d) {v w : Int32} : St g d 108 197 [.int v, .int w] (117, H3 g (cc A T K B E l G) (mm Y S)) := by
  have hX := hR.cx
  have hn : A 0 12 0 = nI n := hX.1
  have hn12 := hX.2.1
  have hS0 := hR.1.n0
  have hS5 := hR.1.p0
  have hK := hR.2.2.2.2.1
  have hW := hR.2.2.1
  by_cases hr : rfv K n v = 0
  · by_cases hb : 0 ≤ w ∧ w ≤ 1
    · obtain ⟨s, hs, rfl, _, _⟩ := rfv_ok hr
      exact St_q hR (p_108 rfl rfl hX hs hr hb (by omega)) (fun P => q_197 hR.1 hW hK hs hr hb (by omega))
    · exact St_r hR (p_108b rfl rfl hX hr hb (by omega)) (q_197b hR.1 hW hK hr hb (by omega))
  · exact St_r hR (p_108a rfl rfl hX hr (by omega)) (q_197a hR.1 hW hK hr (by omega))
theorem st_23 (hR : RL A T K B E Y S n p t tc sz zs) (hd : 20 ≤ d) {v w : Int32} : St g d 109 198 [.int v, .int w] (117, H3 g (cc A T K B E l G) (mm Y S)) := by
  have hX := hR.cx
  have hn : A 0 12 0 = nI n := hX.1
  have hn12 := hX.2.1
  have hS0 := hR.1.n0
  have hS5 := hR.1.p0
  have hK := hR.2.2.2.2.1
  have hW := hR.2.2.1
  by_cases hr : rfv K n v = 0
  · by_cases hb : 0 ≤ w ∧ w ≤ 48
    · obtain ⟨s, hs, rfl, _, _⟩ := rfv_ok hr
      obtain ⟨m, hm, rfl⟩ := h48 hb
      obtain ⟨t1, t2, t3, t4, t5⟩ := hR.2.1
      exact St_q hR (p_109 rfl rfl hX hm t3 t2 (fun i hi => (t5 i hi).1) hs hr (by omega)) (fun P => q_198 hR.1 hW hK hm t4 t2 t5 hs hr (by omega))
    · exact St_r hR (p_109b rfl rfl hX hr hb (by omega)) (q_198b hR.1 hW hK hr hb (by omega))
  · exact St_r hR (p_109a rfl rfl hX hr (by omega)) (q_198a hR.1 hW hK hr (by omega))
theorem st_5 (hR : RL A T K B E Y S n p t tc sz zs) (hd : 20 ≤ d) {v w u : Int32} : St g d 89 159 [.int v, .int w, .int u] (117, H3 g (cc A T K B E l G) (mm Y S)) := by
  have hX := hR.cx
  have hn : A 0 12 0 = nI n := hX.1
  have hn12 := hX.2.1
  have hS0 := hR.1.n0
  have hS5 := hR.1.p0
  have hK := hR.2.2.2.2.1
  have hW := hR.2.2.1
  by_cases hb : (0 ≤ v ∧ v ≤ 2) ∧ (0 ≤ w ∧ w < nI n) ∧ (0 ≤ u ∧ u ≤ 999)
  · obtain ⟨k, hk, rfl⟩ := nI_of2 (x := v) (M := 2) (n := 2) rfl (Int32.not_lt.mpr hb.1.1) hb.1.2
    obtain ⟨j, hj, rfl⟩ := own_ix hb.2.1 hn12
    exact St_q hR (p_89 rfl rfl hX hj (by omega) hb.2.2 (by omega)) (fun P => q_159 hR.1 hj (by omega) hb.2.2 (by omega))
  · refine St_r hR (p_89a rfl rfl (v := v) (w := w) (u := u) (fun q => hb ⟨⟨q.1, ?_⟩, by rw [← hn]; exact q.2.2.1, q.2.2.2⟩) (by omega)) (q_159a hR.1 hb (by omega))
    have := q.2.1
    simp only [Int32.le_iff_toInt_le, Int32.lt_iff_toInt_lt, show (3 : Int32).toInt = 3 from rfl, show (2 : Int32).toInt = 2 from rfl] at *
    omega
theorem st_25 (hR : RL A T K B E Y S n p t tc sz zs) (hd : 20 ≤ d) {v w u : Int32} : St g d 112 201 [.int v, .int w, .int u] (117, H3 g (cc A T K B E l G) (mm Y S)) := by
  have hX := hR.cx
  have hn : A 0 12 0 = nI n := hX.1
  have hn12 := hX.2.1
  have hS0 := hR.1.n0
  have hS5 := hR.1.p0
  have hK := hR.2.2.2.2.1
  have hW := hR.2.2.1
  by_cases hb : (0 ≤ v ∧ v ≤ 99999) ∧ (0 ≤ w ∧ w ≤ 48) ∧ (0 ≤ u ∧ u ≤ 994) ∧ i_mod u 10 ≤ 4
  · obtain ⟨m, hm, rfl⟩ := h48 hb.2.1
    obtain ⟨c, hc, rfl⟩ := nI_of2 (x := u) (M := 994) (n := 994) rfl (Int32.not_lt.mpr hb.2.2.1.1) hb.2.2.1.2
    have h4 : c % 10 ≤ 4 := by
      have q := hb.2.2.2
      rw [show i_mod (nI c) 10 = nI (c % 10) from pk_rem (a := c) (d := 10) (by omega) (by decide) (by decide)] at q
      exact (nI_leI (a := c % 10) (b := 4) (by omega) (by decide)).mp q
    exact St_q hR (p_112 rfl rfl hX hm hb.1 (by omega) h4 (by omega)) (fun P => q_201 hR.1 hW hm hb.1 hc h4 (by omega))
  · refine St_r hR (p_112a rfl rfl (v := v) (w := w) (u := u) (fun q => hb ⟨q.1, q.2.1, ?_, q.2.2.2.2⟩) (by omega)) (q_201a hR.1 hW hb (by omega))
    obtain ⟨c, hc, rfl⟩ := nI_of2 (x := u) (M := 999) (n := 999) rfl (Int32.not_lt.mpr q.2.2.1.1) q.2.2.1.2
    have h4 : c % 10 ≤ 4 := by
      have q := q.2.2.2.2
      rw [show i_mod (nI c) 10 = nI (c % 10) from pk_rem (a := c) (d := 10) (by omega) (by decide) (by decide)] at q
      exact (nI_leI (a := c % 10) (b := 4) (by omega) (by decide)).mp q
    exact ⟨nI_pos' (by omega), nI_le (a := c) (b := 994) (by omega) (by decide)⟩
theorem odds_eq {a b : Nat} (hb : b ≤ 20) (h1 : 1 ≤ b) (hab : a ≤ b) {pt : Int32} (hp : 0 ≤ pt ∧ pt ≤ 1) : (if pt = 0 then (nI a / nI (cdv a b b)).toInt64 else (nI b / nI (cdv a b b)).toInt64) = lowV a b pt := by
  unfold lowV
  by_cases h0 : a = 0
  · subst h0
    rw [if_pos rfl, cdv_0 b hb h1]
    rcases two01 ⟨hp.1, Int32.le_trans hp.2 (by decide)⟩ with rfl | rfl | rfl
    · rw [if_pos rfl, show nI 0 / nI b = nI (0 / b) from pk_div (a := 0) (d := b) (by decide) (by omega) (by omega), Nat.zero_div]; rfl
    · rw [if_neg (by decide), show nI b / nI b = nI (b / b) from pk_div (a := b) (d := b) (by omega) (by omega) (by omega), Nat.div_self (by omega)]; rfl
    · exact absurd hp.2 (by decide)
  · obtain ⟨c1, c2, c3⟩ := gd_cdv b hb a hab (by omega)
    rw [if_neg h0, c1]
    by_cases hp0 : pt = 0
    · rw [if_pos hp0, if_pos hp0, show nI a / nI (gd b a b) = nI (a / gd b a b) from pk_div (a := a) (d := gd b a b) (by omega) c2 (by omega), pk_lDiv (a := a) (b := gd b a b) (by omega) c2 (by omega), nI_l (Nat.lt_of_le_of_lt (Nat.div_le_self _ _) (by omega))]
    · rw [if_neg hp0, if_neg hp0, show nI b / nI (gd b a b) = nI (b / gd b a b) from pk_div (a := b) (d := gd b a b) (by omega) c2 (by omega), pk_lDiv (a := b) (b := gd b a b) (by omega) c2 (by omega), nI_l (Nat.lt_of_le_of_lt (Nat.div_le_self _ _) (by omega))]
theorem st_26 (hR : RL A T K B E Y S n p t tc sz zs) (hd : 20 ≤ d) {v w u x y : Int32} : StL g d 113 203 [.int v, .int w, .int u, .int x, .int y] (117, H3 g (cc A T K B E l G) (mm Y S)) := by
  have hX := hR.cx
  have hn : A 0 12 0 = nI n := hX.1
  have hn12 := hX.2.1
  have hS0 := hR.1.n0
  have hS5 := hR.1.p0
  have hK := hR.2.2.2.2.1
  have hW := hR.2.2.1
  by_cases hb : (0 ≤ v ∧ v ≤ 99999) ∧ (0 ≤ w ∧ w ≤ 4820) ∧ (1 ≤ i_mod w 100 ∧ i_mod w 100 ≤ 20) ∧ (0 ≤ u ∧ u < nI n) ∧ (0 ≤ x ∧ x ≤ 99) ∧ (0 ≤ y ∧ y ≤ 1)
  · obtain ⟨b1, b2, b3, b4, b5, b6⟩ := hb
    obtain ⟨hz, hz1, rfl⟩ := nI_of2 (x := w) (M := 4820) (n := 4820) rfl (Int32.not_lt.mpr b2.1) b2.2
    obtain ⟨j, hj, rfl⟩ := own_ix b4 hn12
    obtain ⟨mo, hmo, rfl⟩ := nI_of2 (x := x) (M := 99) (n := 99) rfl (Int32.not_lt.mpr b5.1) b5.2
    rw [show i_mod (nI hz) 100 = nI (hz % 100) from pk_rem (a := hz) (d := 100) (by omega) (by decide) (by decide)] at b3
    have s1 := (nI_leI (a := 1) (b := hz % 100) (by decide) (by omega)).mp b3.1
    have s2 := (nI_leI (a := hz % 100) (b := 20) (by omega) (by decide)).mp b3.2
    have hc := p_113 (d := d) (g := g) (N := 117) (A := A) (T := T) (K := K) (B := B) (E := E) (l := l) (G := G) (Qm := mm Y S) (r0 := 0) (r1 := 1) rfl rfl hX b1 (by omega) (by omega) s1 s2 hj hmo b6 (by omega)
    rw [odds_eq s2 s1 (odc_le _ _) b6] at hc
    exact StL_q hR hc (fun P => q_203 hR.1 hW b1 (by omega) (by omega) s1 s2 hj hmo b6 (by omega))
  · refine StL_r hR (p_113a rfl rfl (v := v) (hz := w) (w := u) (u := x) (pt := y) (fun q => hb ⟨q.1, ?_, q.2.2.2.1, by rw [← hn]; exact q.2.2.2.2.1, q.2.2.2.2.2.1, q.2.2.2.2.2.2⟩) (by omega)) (q_203a hR.1 hW hb (by omega))
    obtain ⟨hz, hz1, rfl⟩ := nI_of (x := w) (Int32.not_lt.mpr q.2.1)
    have a1 := q.2.2.1.2
    have a2 := q.2.2.2.1.2
    rw [show (nI hz / 100 : Int32) = nI (hz / 100) from pk_div (a := hz) (d := 100) hz1 (by decide) (by decide)] at a1
    rw [show i_mod (nI hz) 100 = nI (hz % 100) from pk_rem (a := hz) (d := 100) hz1 (by decide) (by decide)] at a2
    have s1 := (nI_leI (a := hz / 100) (b := 48) (by omega) (by decide)).mp a1
    have s2 := (nI_leI (a := hz % 100) (b := 20) (by omega) (by decide)).mp a2
    exact ⟨nI_pos' (by omega), nI_le (a := hz) (b := 4820) (by omega) (by decide)⟩
theorem st_0 (hR : RL A T K B E Y S n p t tc sz zs) (hd : 20 ≤ d) {v : Int32} : St g d 84 140 [.int v] (117, H3 g (cc A T K B E l G) (mm Y S)) := by
  have hX := hR.cx
  have hn : A 0 12 0 = nI n := hX.1
  have hn12 := hX.2.1
  have hS0 := hR.1.n0
  have hS5 := hR.1.p0
  have hK := hR.2.2.2.2.1
  have hW := hR.2.2.1
  have e2 : A 0 12 2 = S 8 := (hR.1.1.tw (b := 2) (by decide)).symm
  have e3 : A 0 12 3 = S 9 := (hR.1.1.tw (b := 3) (by decide)).symm
  have e4 : A 0 12 4 = S 15 := (hR.1.1.tw (b := 4) (by decide)).symm
  have e : cnV (A 0) B E v = cnM S v := by
    unfold cnV cnM
    rw [hn, hX.2.2.1, hS0, hS5, e2, e3, e4, hR.2.1.2.2.1, hR.2.1.2.2.2.1, hR.2.2.2.2.2.2.1.1, hR.2.2.2.2.2.2.1.2.1]
  have h1 := p_84 (d := d) (g := g) (N := 117) (A := A) (T := T) (K := K) (B := B) (E := E) (l := l) (G := G) (Qm := mm Y S) (r0 := 0) (r1 := 1) (w := v) rfl rfl (by omega)
  rw [e] at h1
  exact St_r hR h1 (q_140 (by omega))
theorem st_11 (hR : RL A T K B E Y S n p t tc sz zs) (hd : 20 ≤ d) {v : Int32} : St g d 95 166 [.int v] (117, H3 g (cc A T K B E l G) (mm Y S)) := by
  have hX := hR.cx
  have hn : A 0 12 0 = nI n := hX.1
  have hn12 := hX.2.1
  have hS0 := hR.1.n0
  have hS5 := hR.1.p0
  have hK := hR.2.2.2.2.1
  have hW := hR.2.2.1
  by_cases hb : 0 ≤ v ∧ v < nI p
  · obtain ⟨k, hk, rfl⟩ := own_ix hb (by have := hX.2.2.2.1; omega)
    have h1 := x_95 (d := d) (g := g) (N := 117) (A := A) (T := T) (K := K) (B := B) (E := E) (l := l) (G := G) (Qm := mm Y S) (r0 := 0) (r1 := 1) rfl rfl hX.2.2.1 hX.2.2.2.1 (v := nI k) (by omega)
    rw [show cmv (A 0) (nI k) = 10 * Y 4 k + Y 5 k from by
      unfold cmv
      rw [if_pos (by rw [hX.2.2.1]; exact hb), nI_clamp (by have := hX.2.2.2.1; omega), ← hR.1.1.hi (a := 10) (b := k) (by decide) (by decide) (by have := hX.2.2.2.1; omega), ← hR.1.1.hi (a := 11) (b := k) (by decide) (by decide) (by have := hX.2.2.2.1; omega)]
      rfl] at h1
    exact St_r hR h1 (q_166 hS5 hX.2.2.2.1 hk (by omega))
  · have h1 := x_95 (d := d) (g := g) (N := 117) (A := A) (T := T) (K := K) (B := B) (E := E) (l := l) (G := G) (Qm := mm Y S) (r0 := 0) (r1 := 1) rfl rfl hX.2.2.1 hX.2.2.2.1 (v := v) (by omega)
    rw [show cmv (A 0) v = -6 from if_neg (by rw [hX.2.2.1]; exact hb)] at h1
    exact St_r hR h1 (q_166n hS5 hX.2.2.2.1 hb (by omega))
theorem w07 {w : Int32} (h : 0 ≤ w ∧ w ≤ 7) : w = 0 ∨ w = 1 ∨ w = 2 ∨ w = 3 ∨ w = 4 ∨ w = 5 ∨ w = 6 ∨ w = 7 := by
  obtain ⟨c, hc, rfl⟩ := nI_of2 (x := w) (M := 7) (n := 7) rfl (Int32.not_lt.mpr h.1) h.2
  have : c = 0 ∨ c = 1 ∨ c = 2 ∨ c = 3 ∨ c = 4 ∨ c = 5 ∨ c = 6 ∨ c = 7 := by omega
  rcases this with rfl | rfl | rfl | rfl | rfl | rfl | rfl | rfl <;> decide
theorem st_8 (hR : RL A T K B E Y S n p t tc sz zs) (hd : 20 ≤ d) {v w : Int32} : St g d 92 163 [.int v, .int w] (117, H3 g (cc A T K B E l G) (mm Y S)) := by
  have hX := hR.cx
  have hn : A 0 12 0 = nI n := hX.1
  have hn12 := hX.2.1
  have hS0 := hR.1.n0
  have hS5 := hR.1.p0
  have hK := hR.2.2.2.2.1
  have hW := hR.2.2.1
  by_cases hg : 0 ≤ v ∧ v < nI n
  · by_cases hb : 0 ≤ w ∧ w ≤ 7
    · obtain ⟨j, hj, rfl⟩ := own_ix hg hn12
      rcases w07 hb with rfl | rfl | rfl | rfl | rfl | rfl | rfl | rfl
      · have h1 := p_92 (d := d) (g := g) (N := 117) (A := A) (T := T) (K := K) (B := B) (E := E) (l := l) (G := G) (Qm := mm Y S) (r0 := 0) (r1 := 1) rfl rfl hn hn12 hj (w := 0) (by decide) (by decide) (by omega)
        rw [(show onum (A 0) j 0 = Y 2 (5 * j + 0) from (hR.1.1.lo (a := 2) (b := j) (by decide) hj).symm)] at h1
        exact St_r hR h1 (q_163_0 hS0 hn12 hj (by omega))
      · have h1 := p_92 (d := d) (g := g) (N := 117) (A := A) (T := T) (K := K) (B := B) (E := E) (l := l) (G := G) (Qm := mm Y S) (r0 := 0) (r1 := 1) rfl rfl hn hn12 hj (w := 1) (by decide) (by decide) (by omega)
        rw [(show onum (A 0) j 1 = Y 2 (5 * j + 1) from (hR.1.1.lo (a := 3) (b := j) (by decide) hj).symm)] at h1
        exact St_r hR h1 (q_163_1 hS0 hn12 hj (by omega))
      · have h1 := p_92 (d := d) (g := g) (N := 117) (A := A) (T := T) (K := K) (B := B) (E := E) (l := l) (G := G) (Qm := mm Y S) (r0 := 0) (r1 := 1) rfl rfl hn hn12 hj (w := 2) (by decide) (by decide) (by omega)
        rw [(show onum (A 0) j 2 = Y 2 (5 * j + 2) from (hR.1.1.lo (a := 4) (b := j) (by decide) hj).symm)] at h1
        exact St_r hR h1 (q_163_2 hS0 hn12 hj (by omega))
      · have h1 := p_92 (d := d) (g := g) (N := 117) (A := A) (T := T) (K := K) (B := B) (E := E) (l := l) (G := G) (Qm := mm Y S) (r0 := 0) (r1 := 1) rfl rfl hn hn12 hj (w := 3) (by decide) (by decide) (by omega)
        rw [(show onum (A 0) j 3 = Y 2 (5 * j + 3) from (hR.1.1.lo (a := 5) (b := j) (by decide) hj).symm)] at h1
        exact St_r hR h1 (q_163_3 hS0 hn12 hj (by omega))
      · have h1 := p_92 (d := d) (g := g) (N := 117) (A := A) (T := T) (K := K) (B := B) (E := E) (l := l) (G := G) (Qm := mm Y S) (r0 := 0) (r1 := 1) rfl rfl hn hn12 hj (w := 4) (by decide) (by decide) (by omega)
        rw [(show onum (A 0) j 4 = Y 2 (5 * j + 4) from (hR.1.1.lo (a := 6) (b := j) (by decide) hj).symm)] at h1
        exact St_r hR h1 (q_163_4 hS0 hn12 hj (by omega))
      · have h1 := p_92 (d := d) (g := g) (N := 117) (A := A) (T := T) (K := K) (B := B) (E := E) (l := l) (G := G) (Qm := mm Y S) (r0 := 0) (r1 := 1) rfl rfl hn hn12 hj (w := 5) (by decide) (by decide) (by omega)
        rw [(show onum (A 0) j 5 = Y 0 j from (hR.1.1.lo (a := 0) (b := j) (by decide) hj).symm)] at h1
        exact St_r hR h1 (q_163_5 hS0 hn12 hj (by omega))
      · have h1 := p_92 (d := d) (g := g) (N := 117) (A := A) (T := T) (K := K) (B := B) (E := E) (l := l) (G := G) (Qm := mm Y S) (r0 := 0) (r1 := 1) rfl rfl hn hn12 hj (w := 6) (by decide) (by decide) (by omega)
        rw [(show onum (A 0) j 6 = Y 1 j from (hR.1.1.lo (a := 1) (b := j) (by decide) hj).symm)] at h1
        exact St_r hR h1 (q_163_6 hS0 hn12 hj (by omega))
      · have h1 := p_92s (d := d) (g := g) (N := 117) (A := A) (T := T) (K := K) (B := B) (E := E) (l := l) (G := G) (Qm := mm Y S) (r0 := 0) (r1 := 1) rfl rfl hn hn12 hj (by omega)
        rw [(show A 0 9 (j / 2) = Y 3 (j / 2) from (hR.1.1.hi (a := 9) (b := j / 2) (by decide) (by decide) (by omega)).symm)] at h1
        exact St_r hR h1 (q_163_7 hS0 hn12 hj (by omega))
    · obtain ⟨j, hj, rfl⟩ := own_ix hg hn12
      refine St_r hR (p_92b rfl rfl (by rw [hn]; exact hg) hb (by omega)) (q_163b hS0 hn12 hj (fun q => hb ⟨q.1, Int32.le_trans q.2 (by decide)⟩) (fun q => hb (by rw [q]; decide)) (fun q => hb (by rw [q]; decide)) (fun q => hb (by rw [q]; decide)) (by omega))
  · exact St_r hR (p_92a rfl rfl (by rw [hn]; exact hg) (by omega)) (q_163a hS0 hn12 hg (by omega))
theorem st_33 (hR : RL A T K B E Y S n p t tc sz zs) (hd : 20 ≤ d) {v w : Int32} : StL g d 121 211 [.int v, .int w] (117, H3 g (cc A T K B E l G) (mm Y S)) := by
  have hX := hR.cx
  have hn : A 0 12 0 = nI n := hX.1
  have hn12 := hX.2.1
  have hS0 := hR.1.n0
  have hS5 := hR.1.p0
  have hK := hR.2.2.2.2.1
  have hW := hR.2.2.1
  by_cases hw : 0 ≤ w ∧ w ≤ 6
  · by_cases hv : 0 ≤ v ∧ v ≤ 17
    · obtain ⟨c, hc, rfl⟩ := nI_of2 (x := v) (M := 17) (n := 17) rfl (Int32.not_lt.mpr hv.1) hv.2
      by_cases h12 : c < 12
      · by_cases hcn : c < n
        · obtain ⟨k, hk6, hk⟩ := hR.2.2.2.1.1 c hcn
          exact StL_r hR (p_121 rfl rfl hn hn12 hw hcn hk6 hk (by omega)) (q_211 hS0 hn12 hw hcn hk6 ((hR.1.1.lo (a := 0) (b := c) (by decide) hcn).trans hk) (by omega))
        · exact StL_r hR (p_121o rfl rfl hw h12 (by rw [hn]; exact fun q => hcn ((nI_ltI (a := c) (b := n) (by omega) (by omega)).mp q.2)) (by omega)) (q_211o hS0 hn12 hw h12 hcn (by omega))
      · by_cases h6 : w = 6
        · subst h6
          have h1 := p_121p (d := d) (g := g) (N := 117) (A := A) (T := T) (K := K) (B := B) (E := E) (l := l) (G := G) (Qm := mm Y S) (r0 := 0) (r1 := 1) rfl rfl (v := c) (by omega) (by omega) (by omega)
          rw [show A 0 9 (c - 12) = Y 3 (c - 12) from (hR.1.1.hi (a := 9) (b := c - 12) (by decide) (by decide) (by omega)).symm] at h1
          exact StL_r hR h1 (q_211p (by omega) (by omega) (by omega))
        · exact StL_r hR (p_121n rfl rfl hw (by omega) (by omega) h6 (by omega)) (q_211n hw (by omega) (by omega) h6 (by omega))
    · exact StL_r hR (p_121b rfl rfl hw hv (by omega)) (q_211b hw hv (by omega))
  · exact StL_r hR (p_121a rfl rfl hw (by omega)) (q_211a hw (by omega))
end
