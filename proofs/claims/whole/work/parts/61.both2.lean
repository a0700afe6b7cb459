/-! BOTH TOGETHER: the calls that change something (wip/whole/gen61.py) -/
section
variable {g : mG} {d zc zm : Nat} {vs : List Value} {A T K : Nat → tR} {B : tR} {E : Nat → Int32} {l : Int64} {G : tR} {Y : tR} {S : Nat → Int32} {n p t tc sz : Nat} {zs : Nat → Nat → Nat}
theorem St_x {v : Int32} {A' T' K' : Nat → tR} {B' : tR} {E' : Nat → Int32} {l' : Int64} {G' : tR} {Y' : tR} {S' : Nat → Int32} {n' p' t' tc' sz' : Nat} {zs' : Nat → Nat → Nat} {h : mM} (h1 : Ex d zc (.ref 0 :: vs) h (some (.int v)) (117, H3 g (cc A' T' K' B' E' l' G') (mm Y S))) (h2 : Ex d zm (.ref 92 :: vs) (117, H3 g (cc A' T' K' B' E' l' G') (mm Y S)) (some (.int v)) (117, H3 g (cc A' T' K' B' E' l' G') (mm Y' S'))) (hR : RL A' T' K' B' E' Y' S' n' p' t' tc' sz' zs') : St g d zc zm vs h :=
  ⟨v, _, _, _, _, h1, h2, A', T', K', B', E', l', G', Y', S', n', p', t', tc', sz', zs', rfl, hR⟩
theorem WB.bay4 (h : WB n (A 0)) {i : Nat} {v : Int32} (h1 : 0 ≤ v.toInt) (h2 : v.toInt ≤ 99) : WB n (u3 A 0 4 i v 0) := by
  refine ⟨fun j hj => ?_, fun q hq => ?_⟩
  · simp only [u3_ap, show ¬ (2 = 4) by decide, show ¬ (1 = 4) by decide, false_and, and_false, if_false]
    have := h.1 j hj
    split
    · exact ⟨this.1, this.2.1, h1, h2, this.2.2.2.2⟩
    · exact this
  · rw [u3_ap, if_neg (by omega)]; exact h.2 q hq
theorem bnd {v : Int32} {c : Nat} (hc : c < 2 ^ 31) (h : 0 ≤ v ∧ v ≤ nI c) : 0 ≤ v.toInt ∧ v.toInt ≤ c := by
  simp only [Int32.le_iff_toInt_le, nI_toInt hc] at h
  exact h
theorem KB.u (h : KB n (A 0)) {i j : Nat} {v : Int32} (hi : ¬ (i = 0 ∨ (i = 12 ∧ j = 2))) : KB n (u3 A 0 i j v 0) := by
  refine ⟨fun k hk => ?_, ?_⟩
  · rw [u3_ap, if_neg (by omega)]; exact h.1 k hk
  · rw [u3_ap, if_neg (by omega)]; exact h.2
theorem m_id {Y : tR} {S : Nat → Int32} : va_up S 9 (S 9) = S := va_self S 9
theorem st_1 (hR : RL A T K B E Y S n p t tc sz zs) (hd : 20 ≤ d) {v w : Int32} : St g d 85 141 [.int v, .int w] (117, H3 g (cc A T K B E l G) (mm Y S)) := by
  have hX := hR.cx
  have hn : A 0 12 0 = nI n := hX.1
  have hn12 := hX.2.1
  have hS0 := hR.1.n0
  have hS5 := hR.1.p0
  have hK := hR.2.2.2.2.1
  have hW := hR.2.2.1
  by_cases hv : 0 ≤ v ∧ v ≤ 1
  · rcases two01 ⟨hv.1, Int32.le_trans hv.2 (by decide)⟩ with rfl | rfl | rfl
    · skip
      by_cases hb : 0 ≤ w ∧ w ≤ 99
      · have e : va_up (va_up S 8 w) 9 (S 9) = va_up S 8 w := by
          funext i; unfold va_up; by_cases h9 : i = 9
          · subst h9; rfl
          · rw [if_neg h9]
        have h2 := q_141_0 (d := d) (g := g) (N := 117) (P := cc (u3 A 0 12 2 w) T K B E l G) (Y := Y) (S := S) hb (by omega)
        rw [e, show S 8 = A 0 12 2 from hR.1.1.tw (b := 2) (by decide)] at h2
        have bb := bnd (c := 99) (by decide) hb
        refine St_x (n' := n) (p' := p) (t' := t) (tc' := tc) (sz' := sz) (zs' := zs) (p_85_0 rfl rfl hb (by omega)) h2 (hR.road (S' := va_up S 8 w) ⟨fun _ _ => rfl, rfl, rfl, rfl⟩ ?_ (hW.uo (by decide)) ⟨fun k hk => by rw [u3_ap, if_neg (by omega)]; exact hR.2.2.2.1.1 k hk, by rw [u3_ap, if_pos ⟨rfl, rfl, rfl⟩]; omega⟩ (Nat.le_refl _) (u3_ne _ (by decide) _ _ _) (fun j _ => ⟨by rw [u3_ap, if_neg (by omega)], by rw [u3_ap, if_neg (by omega)]⟩))
        exact hR.1.set (mes_s8 (r := 0) hR.1.1 rfl) (by rw [u3_ap, if_neg (by omega)]) (by rw [u3_ap, if_neg (by omega)]) (by rw [u3_ap, if_neg (by omega)]) (fun q => q) (fun j hj => by rw [u3_ap, if_neg (by omega)]; exact hW.bay j hj)
      · exact St_r hR (p_85_0n rfl rfl hb (by omega)) (q_141_0n hb (by omega))
    · skip
      by_cases hb : 0 ≤ w ∧ w ≤ 999
      · have e : va_up (va_up S 8 (S 8)) 9 w = va_up S 9 w := by
          rw [va_self]
        have h2 := q_141_1 (d := d) (g := g) (N := 117) (P := cc (u3 A 0 12 3 w) T K B E l G) (Y := Y) (S := S) hb (by omega)
        rw [e, show S 9 = A 0 12 3 from hR.1.1.tw (b := 3) (by decide)] at h2
        have bb := bnd (c := 999) (by decide) hb
        refine St_x (n' := n) (p' := p) (t' := t) (tc' := tc) (sz' := sz) (zs' := zs) (p_85_1 rfl rfl hb (by omega)) h2 (hR.road (S' := va_up S 9 w) ⟨fun _ _ => rfl, rfl, rfl, rfl⟩ ?_ (hW.uo (by decide)) (hR.2.2.2.1.u (by decide)) (Nat.le_refl _) (u3_ne _ (by decide) _ _ _) (fun j _ => ⟨by rw [u3_ap, if_neg (by omega)], by rw [u3_ap, if_neg (by omega)]⟩))
        exact hR.1.set (mes_s9 (r := 0) hR.1.1 rfl) (by rw [u3_ap, if_neg (by omega)]) (by rw [u3_ap, if_neg (by omega)]) (by rw [u3_ap, if_neg (by omega)]) (fun q => q) (fun j hj => by rw [u3_ap, if_neg (by omega)]; exact hW.bay j hj)
      · exact St_r hR (p_85_1n rfl rfl hb (by omega)) (q_141_1n hb (by omega))
    · exact absurd hv.2 (by decide)
  · exact St_r hR (p_85a rfl rfl hv (by omega)) (q_141a hv (by omega))
theorem st_4 (hR : RL A T K B E Y S n p t tc sz zs) (hd : 20 ≤ d) {v : Int32} : St g d 88 157 [.int v] (117, H3 g (cc A T K B E l G) (mm Y S)) := by
  have hX := hR.cx
  have hn : A 0 12 0 = nI n := hX.1
  have hn12 := hX.2.1
  have hS0 := hR.1.n0
  have hS5 := hR.1.p0
  have hK := hR.2.2.2.2.1
  have hW := hR.2.2.1
  obtain ⟨t1, t2, t3, t4, t5⟩ := hR.2.1
  by_cases hv : 0 ≤ v ∧ v < nI tc
  · obtain ⟨c, hc, rfl⟩ := own_ix hv (by omega)
    have h2 := q_157 (d := d) (g := g) (N := 117) (P := cc (u3 A 0 12 4 (nI c)) T K B E l G) (Y := Y) (S := S) t4 t2 hv (by omega)
    rw [show S 15 = A 0 12 4 from hR.1.1.tw (b := 4) (by decide)] at h2
    refine St_x (n' := n) (p' := p) (t' := c) (tc' := tc) (sz' := sz) (zs' := zs) (p_88 rfl rfl (by rw [t3]; exact hv) (by omega)) h2 ?_
    obtain ⟨a1, a2, a3, a4, a5, a6, a7, a8, a9, b1⟩ := hR
    obtain ⟨m1, m2, m3, m4, m5, m6, m7, m8, m9, m10⟩ := a1
    have g0 : ∀ i j, ¬ (i = 12 ∧ j = 4) → u3 A 0 12 4 (nI c) 0 i j = A 0 i j := fun i j q => by rw [u3_ap, if_neg (fun e => q e.2)]
    refine ⟨⟨mes_s15 (r := 0) m1 rfl, ?_, m3, ?_, m5, ?_, by omega, (t5 c hc).1, (t5 c hc).2, fun j hj => ?_⟩, ⟨⟨hc, t1.2⟩, t2, t3, t4, t5⟩, a3.uo (by decide), a4.u (by decide), a5, a6, a7, a8, ?_, b1⟩
    · rw [g0 _ _ (by decide)]; exact m2
    · rw [g0 _ _ (by decide)]; exact m4
    · rw [u3_ap, if_pos ⟨rfl, rfl, rfl⟩]
    · rw [g0 _ _ (by omega)]; exact m10 j hj
    · rcases a9 with q | q
      · exact Or.inl q
      · rw [show u3 A 0 12 4 (nI c) 2 = A 2 from u3_ne _ (by decide) _ _ _]
        exact Or.inr (q.fr (Nat.le_refl _) (Nat.le_refl _) (fun j _ => ⟨g0 _ _ (by omega), g0 _ _ (by omega)⟩) rfl rfl)
  · exact St_r hR (p_88a rfl rfl (by rw [t3]; exact hv) (by omega)) (q_157a t4 t2 hv (by omega))
theorem w04' {w : Int32} (h : 0 ≤ w ∧ w ≤ 4) : w = 0 ∨ w = 1 ∨ w = 2 ∨ w = 3 ∨ w = 4 := w04 h
theorem st_7 (hR : RL A T K B E Y S n p t tc sz zs) (hd : 20 ≤ d) {v w u : Int32} : St g d 91 162 [.int v, .int w, .int u] (117, H3 g (cc A T K B E l G) (mm Y S)) := by
  have hX := hR.cx
  have hn : A 0 12 0 = nI n := hX.1
  have hn12 := hX.2.1
  have hS0 := hR.1.n0
  have hS5 := hR.1.p0
  have hK := hR.2.2.2.2.1
  have hW := hR.2.2.1
  by_cases hg : 0 ≤ v ∧ v < nI n
  · obtain ⟨j, hj, rfl⟩ := own_ix hg hn12
    by_cases hw : 0 ≤ w ∧ w ≤ 4
    · rcases w04 hw with rfl | rfl | rfl | rfl | rfl
      · by_cases hb : 0 ≤ u ∧ u ≤ 999
        · have bb := bnd (c := 999) (by decide) hb
          have h2 := q_162_0 (d := d) (g := g) (N := 117) (P := cc (ochg A 0 j 0 u) T K B E l G) (Y := Y) (S := S) hS0 hn12 hj hb (by omega)
          rw [show Y 2 (5 * j + 0) = onum (A 0) j 0 from hR.1.1.lo (a := 2) (b := j) (by decide) hj] at h2
          have gg : ∀ i c, ¬ i = 2 → ochg A 0 j 0 u 0 i c = A 0 i c := fun i c q => (u3_ap A 0 2 j 0 i c u).trans (if_neg (fun e => q e.2.1))
          refine St_x (n' := n) (p' := p) (t' := t) (tc' := tc) (sz' := sz) (zs' := zs) (p_91_0 rfl rfl hn hn12 hj hb (by omega)) h2 (hR.road (S' := S) ⟨fun i hi => u2_row (by omega), rfl, rfl, rfl⟩ ?_ (hW.u2 bb.1 bb.2) ⟨fun i hi => by rw [gg _ _ (by decide)]; exact hR.2.2.2.1.1 i hi, by rw [gg _ _ (by decide)]; exact hR.2.2.2.1.2⟩ (Nat.le_refl _) (ochg_ne (by decide)) (fun i _ => ⟨gg _ _ (by decide), gg _ _ (by decide)⟩))
          refine hR.1.set (mes_r0 (r := 0) hR.1.1 rfl) (gg _ _ (by decide)) (gg _ _ (by decide)) (gg _ _ (by decide)) (lm_u (by decide)) (fun i hi => ?_)
          rw [show ochg A 0 j 0 u 0 4 i = u3 A 0 2 j u 0 4 i from rfl, u3_ap, if_neg (by omega)]; exact hW.bay i hi
        · exact St_r hR (p_91_0n rfl rfl hn hn12 hj hb (by omega)) (q_162_0n hS0 hn12 hj hb (by omega))
      · by_cases hb : 0 ≤ u ∧ u ≤ 999
        · have bb := bnd (c := 999) (by decide) hb
          have h2 := q_162_1 (d := d) (g := g) (N := 117) (P := cc (ochg A 0 j 1 u) T K B E l G) (Y := Y) (S := S) hS0 hn12 hj hb (by omega)
          rw [show Y 2 (5 * j + 1) = onum (A 0) j 1 from hR.1.1.lo (a := 3) (b := j) (by decide) hj] at h2
          have gg : ∀ i c, ¬ i = 3 → ochg A 0 j 1 u 0 i c = A 0 i c := fun i c q => (u3_ap A 0 3 j 0 i c u).trans (if_neg (fun e => q e.2.1))
          refine St_x (n' := n) (p' := p) (t' := t) (tc' := tc) (sz' := sz) (zs' := zs) (p_91_1 rfl rfl hn hn12 hj hb (by omega)) h2 (hR.road (S' := S) ⟨fun i hi => u2_row (by omega), rfl, rfl, rfl⟩ ?_ (hW.uo (by decide)) ⟨fun i hi => by rw [gg _ _ (by decide)]; exact hR.2.2.2.1.1 i hi, by rw [gg _ _ (by decide)]; exact hR.2.2.2.1.2⟩ (Nat.le_refl _) (ochg_ne (by decide)) (fun i _ => ⟨gg _ _ (by decide), gg _ _ (by decide)⟩))
          refine hR.1.set (mes_r1 (r := 0) hR.1.1 rfl) (gg _ _ (by decide)) (gg _ _ (by decide)) (gg _ _ (by decide)) (lm_u (by decide)) (fun i hi => ?_)
          rw [show ochg A 0 j 1 u 0 4 i = u3 A 0 3 j u 0 4 i from rfl, u3_ap, if_neg (by omega)]; exact hW.bay i hi
        · exact St_r hR (p_91_1n rfl rfl hn hn12 hj hb (by omega)) (q_162_1n hS0 hn12 hj hb (by omega))
      · by_cases hb : 0 ≤ u ∧ u ≤ 99
        · have bb := bnd (c := 99) (by decide) hb
          have h2 := q_162_2 (d := d) (g := g) (N := 117) (P := cc (ochg A 0 j 2 u) T K B E l G) (Y := Y) (S := S) hS0 hn12 hj hb (by omega)
          rw [show Y 2 (5 * j + 2) = onum (A 0) j 2 from hR.1.1.lo (a := 4) (b := j) (by decide) hj] at h2
          have gg : ∀ i c, ¬ i = 4 → ochg A 0 j 2 u 0 i c = A 0 i c := fun i c q => (u3_ap A 0 4 j 0 i c u).trans (if_neg (fun e => q e.2.1))
          refine St_x (n' := n) (p' := p) (t' := t) (tc' := tc) (sz' := sz) (zs' := zs) (p_91_2 rfl rfl hn hn12 hj hb (by omega)) h2 (hR.road (S' := S) ⟨fun i hi => u2_row (by omega), rfl, rfl, rfl⟩ ?_ (hW.bay4 bb.1 bb.2) ⟨fun i hi => by rw [gg _ _ (by decide)]; exact hR.2.2.2.1.1 i hi, by rw [gg _ _ (by decide)]; exact hR.2.2.2.1.2⟩ (Nat.le_refl _) (ochg_ne (by decide)) (fun i _ => ⟨gg _ _ (by decide), gg _ _ (by decide)⟩))
          refine hR.1.set (mes_r2 (r := 0) hR.1.1 rfl) (gg _ _ (by decide)) (gg _ _ (by decide)) (gg _ _ (by decide)) (lm_u (by decide)) (fun i hi => ?_)
          rw [show ochg A 0 j 2 u 0 4 i = u3 A 0 4 j u 0 4 i from rfl, u3_ap]; split
          · exact hb.1
          · exact hW.bay i hi
        · exact St_r hR (p_91_2n rfl rfl hn hn12 hj hb (by omega)) (q_162_2n hS0 hn12 hj hb (by omega))
      · by_cases hb : 0 ≤ u ∧ u ≤ 23
        · have bb := bnd (c := 23) (by decide) hb
          have h2 := q_162_3 (d := d) (g := g) (N := 117) (P := cc (ochg A 0 j 3 u) T K B E l G) (Y := Y) (S := S) hS0 hn12 hj hb (by omega)
          rw [show Y 2 (5 * j + 3) = onum (A 0) j 3 from hR.1.1.lo (a := 5) (b := j) (by decide) hj] at h2
          have gg : ∀ i c, ¬ i = 5 → ochg A 0 j 3 u 0 i c = A 0 i c := fun i c q => (u3_ap A 0 5 j 0 i c u).trans (if_neg (fun e => q e.2.1))
          refine St_x (n' := n) (p' := p) (t' := t) (tc' := tc) (sz' := sz) (zs' := zs) (p_91_3 rfl rfl hn hn12 hj hb (by omega)) h2 (hR.road (S' := S) ⟨fun i hi => u2_row (by omega), rfl, rfl, rfl⟩ ?_ (hW.uo (by decide)) ⟨fun i hi => by rw [gg _ _ (by decide)]; exact hR.2.2.2.1.1 i hi, by rw [gg _ _ (by decide)]; exact hR.2.2.2.1.2⟩ (Nat.le_refl _) (ochg_ne (by decide)) (fun i _ => ⟨gg _ _ (by decide), gg _ _ (by decide)⟩))
          refine hR.1.set (mes_r3 (r := 0) hR.1.1 rfl) (gg _ _ (by decide)) (gg _ _ (by decide)) (gg _ _ (by decide)) (lm_u (by decide)) (fun i hi => ?_)
          rw [show ochg A 0 j 3 u 0 4 i = u3 A 0 5 j u 0 4 i from rfl, u3_ap, if_neg (by omega)]; exact hW.bay i hi
        · exact St_r hR (p_91_3n rfl rfl hn hn12 hj hb (by omega)) (q_162_3n hS0 hn12 hj hb (by omega))
      · by_cases hb : 0 ≤ u ∧ u ≤ 1
        · have bb := bnd (c := 1) (by decide) hb
          have h2 := q_162_4 (d := d) (g := g) (N := 117) (P := cc (ochg A 0 j 4 u) T K B E l G) (Y := Y) (S := S) hS0 hn12 hj hb (by omega)
          rw [show Y 2 (5 * j + 4) = onum (A 0) j 4 from hR.1.1.lo (a := 6) (b := j) (by decide) hj] at h2
          have gg : ∀ i c, ¬ i = 6 → ochg A 0 j 4 u 0 i c = A 0 i c := fun i c q => (u3_ap A 0 6 j 0 i c u).trans (if_neg (fun e => q e.2.1))
          refine St_x (n' := n) (p' := p) (t' := t) (tc' := tc) (sz' := sz) (zs' := zs) (p_91_4 rfl rfl hn hn12 hj hb (by omega)) h2 (hR.road (S' := S) ⟨fun i hi => u2_row (by omega), rfl, rfl, rfl⟩ ?_ (hW.uo (by decide)) ⟨fun i hi => by rw [gg _ _ (by decide)]; exact hR.2.2.2.1.1 i hi, by rw [gg _ _ (by decide)]; exact hR.2.2.2.1.2⟩ (Nat.le_refl _) (ochg_ne (by decide)) (fun i _ => ⟨gg _ _ (by decide), gg _ _ (by decide)⟩))
          refine hR.1.set (mes_r4 (r := 0) hR.1.1 rfl) (gg _ _ (by decide)) (gg _ _ (by decide)) (gg _ _ (by decide)) (lm_u (by decide)) (fun i hi => ?_)
          rw [show ochg A 0 j 4 u 0 4 i = u3 A 0 6 j u 0 4 i from rfl, u3_ap, if_neg (by omega)]; exact hW.bay i hi
        · exact St_r hR (p_91_4n rfl rfl hn hn12 hj hb (by omega)) (q_162_4n hS0 hn12 hj hb (by omega))
    · exact St_r hR (p_91b rfl rfl hn hn12 hj hw (by omega)) (q_162b hS0 hn12 hj hw (by omega))
  · exact St_r hR (p_91a rfl rfl (by rw [hn]; exact hg) (by omega)) (q_162a hS0 hn12 hg (by omega))
theorem st_9 (hR : RL A T K B E Y S n p t tc sz zs) (hd : 20 ≤ d) {v w : Int32} : St g d 93 164 [.int v, .int w] (117, H3 g (cc A T K B E l G) (mm Y S)) := by
  have hX := hR.cx
  have hn : A 0 12 0 = nI n := hX.1
  have hn12 := hX.2.1
  have hS0 := hR.1.n0
  have hS5 := hR.1.p0
  have hK := hR.2.2.2.2.1
  have hW := hR.2.2.1
  have hp := hX.2.2.1
  have hp6 := hX.2.2.2.1
  by_cases hb : (0 ≤ v ∧ v ≤ 23) ∧ (0 ≤ w ∧ w ≤ 1)
  · by_cases h6 : p < 6
    · refine St_x (n' := n) (p' := p + 1) (t' := t) (tc' := tc) (sz' := sz) (zs' := zs) (x_93 rfl rfl hb hp h6 (by omega)) (q_164 hb hS5 h6 (by omega)) ?_
      have gg : ∀ i c, ¬ (i = 10 ∨ i = 11 ∨ (i = 12 ∧ c = 1)) → apA A 0 p v w 0 i c = A 0 i c := fun i c q => by
        unfold apA
        rw [u3_ap, if_neg (by omega), u3_ap, if_neg (by omega), u3_ap, if_neg (by omega)]
      refine hR.road ⟨fun i hi => (u2_row (by omega)).trans (u2_row (by omega)), rfl, rfl, rfl⟩ ?_ ?_ ⟨fun i hi => by rw [gg _ _ (by omega)]; exact hR.2.2.2.1.1 i hi, by rw [gg _ _ (by omega)]; exact hR.2.2.2.1.2⟩ (Nat.le_refl _) (by unfold apA; rw [u3_ne _ (by decide), u3_ne _ (by decide), u3_ne _ (by decide)]) (fun i _ => ⟨gg _ _ (by omega), gg _ _ (by omega)⟩)
      · obtain ⟨m1, m2, m3, m4, m5, m6, m7, m8, m9, m10⟩ := hR.1
        refine ⟨?_, by rw [gg _ _ (by omega)]; exact m2, m3, ?_, by omega, by rw [gg _ _ (by omega)]; exact m6, m7, m8, lm_u (by decide) (lm_u (by decide) m9), fun j hj => by rw [gg _ _ (by omega)]; exact m10 j hj⟩
        · have e := mes_s5 (Y := u2 (u2 Y 4 p v) 5 p w) (A := u3 (u3 A 0 10 p v) 0 11 p w) (r := 0) (v := nI (p + 1)) (v' := nI p + 1) (mes_5 (Y := u2 Y 4 p v) (A := u3 A 0 10 p v) (r := 0) (mes_4 (r := 0) m1 rfl) rfl) (nI_succ p)
          exact e
        · unfold apA
          rw [u3_ap, if_pos ⟨rfl, rfl, rfl⟩, nI_succ]
      · unfold apA
        have w1 : WB n (u3 A 0 10 p v 0) := hW.uo (by decide)
        have w2 : WB n (u3 (u3 A 0 10 p v) 0 11 p w 0) := w1.uo (by decide)
        exact w2.uo (by decide)
    · have e6 : p = 6 := by omega
      subst e6
      exact St_r hR (x_93f rfl rfl hb hp (by omega)) (q_164f hb hS5 (by omega))
  · exact St_r hR (x_93b rfl rfl hb (by omega)) (q_164b hb (by omega))
theorem st_10 (hR : RL A T K B E Y S n p t tc sz zs) (hd : 20 ≤ d) {v w u : Int32} : St g d 94 165 [.int v, .int w, .int u] (117, H3 g (cc A T K B E l G) (mm Y S)) := by
  have hX := hR.cx
  have hn : A 0 12 0 = nI n := hX.1
  have hn12 := hX.2.1
  have hS0 := hR.1.n0
  have hS5 := hR.1.p0
  have hK := hR.2.2.2.2.1
  have hW := hR.2.2.1
  have hp := hX.2.2.1
  have hp6 := hX.2.2.2.1
  by_cases hk0 : 0 ≤ v ∧ v < nI p
  · obtain ⟨k, hk, rfl⟩ := own_ix hk0 (by omega)
    by_cases hb : (0 ≤ w ∧ w ≤ 23) ∧ (0 ≤ u ∧ u ≤ 1)
    · have h2 := q_165 (d := d) (g := g) (N := 117) (P := cc (u3 (u3 A 0 10 k w) 0 11 k u) T K B E l G) (Y := Y) (S := S) hS5 hp6 hk hb (by omega)
      rw [show 10 * Y 4 k + Y 5 k = 10 * A 0 10 k + A 0 11 k from by rw [← hR.1.1.hi (a := 10) (b := k) (by decide) (by decide) (by omega), ← hR.1.1.hi (a := 11) (b := k) (by decide) (by decide) (by omega)]; rfl] at h2
      refine St_x (n' := n) (p' := p) (t' := t) (tc' := tc) (sz' := sz) (zs' := zs) (p_94 rfl rfl hp hp6 hk hb (by omega)) h2 ?_
      have gg : ∀ i c, ¬ (i = 10 ∨ i = 11) → u3 (u3 A 0 10 k w) 0 11 k u 0 i c = A 0 i c := fun i c q => by
        rw [u3_ap, if_neg (by omega), u3_ap, if_neg (by omega)]
      refine hR.road ⟨fun i hi => (u2_row (by omega)).trans (u2_row (by omega)), rfl, rfl, rfl⟩ ?_ ?_ ⟨fun i hi => by rw [gg _ _ (by omega)]; exact hR.2.2.2.1.1 i hi, by rw [gg _ _ (by omega)]; exact hR.2.2.2.1.2⟩ (Nat.le_refl _) (by rw [u3_ne _ (by decide), u3_ne _ (by decide)]) (fun i _ => ⟨gg _ _ (by omega), gg _ _ (by omega)⟩)
      · exact hR.1.set (mes_5 (Y := u2 Y 4 k w) (A := u3 A 0 10 k w) (r := 0) (mes_4 (r := 0) hR.1.1 rfl) rfl) (gg _ _ (by omega)) (gg _ _ (by omega)) (gg _ _ (by omega)) (fun q => lm_u (by decide) (lm_u (by decide) q)) (fun j hj => by rw [gg _ _ (by omega)]; exact hW.bay j hj)
      · have w1 : WB n (u3 A 0 10 k w 0) := hW.uo (by decide)
        exact w1.uo (by decide)
    · exact St_r hR (p_94b rfl rfl hp hp6 hk hb (by omega)) (q_165b hS5 hp6 hk hb (by omega))
  · exact St_r hR (p_94a rfl rfl (by rw [hp]; exact hk0) (by omega)) (q_165a hS5 hp6 hk0 (by omega))
/-- what an owner more leaves of a road -/
def KEP (A A' : Nat → tR) (n n' : Nat) : Prop := n ≤ n' ∧ WB n' (A' 0) ∧ KB n' (A' 0) ∧ A' 2 = A 2 ∧ ∀ j, j < n → A' 0 0 j = A 0 0 j ∧ A' 0 1 j = A 0 1 j
theorem ob1_kep (hW : WB n (A 0)) (hK : KB n (A 0)) {km a : Int32} : KEP A (ob1 A 0 n km a).1 n (ob1 A 0 n km a).2 := by
  unfold ob1
  by_cases h : ((0 ≤ km ∧ km ≤ 59) ∧ (0 ≤ a ∧ a ≤ 23)) ∧ n < 12
  · rw [if_pos h]
    obtain ⟨c, hc, rfl⟩ := nI_of2 (x := km) (M := 59) (n := 59) rfl (Int32.not_lt.mpr h.1.1.1) h.1.1.2
    have e1 : nI c / 10 = nI (c / 10) := pk_div (a := c) (d := 10) (by omega) (by decide) (by decide)
    have e2 : i_mod (nI c) 10 = nI (c % 10) := pk_rem (a := c) (d := 10) (by omega) (by decide) (by decide)
    have z := z0
    refine ⟨Nat.le_succ _, ⟨fun j hj => ?_, fun q hq => ?_⟩, ⟨fun j hj => ?_, ?_⟩, ?_, fun j hj => ?_⟩
    · show 0 ≤ (u3 _ _ _ _ _ _ 2 j).toInt ∧ _
      dsimp only
      rw [owr_ap, owr_ap, owr_ap]
      by_cases e : j = n
      · rw [if_neg (by omega), if_neg (by omega), if_neg (by omega), if_neg (by omega), if_pos ⟨Or.inl rfl, e⟩, if_neg (by omega), if_neg (by omega), if_neg (by omega), if_neg (by omega), if_pos ⟨Or.inr (Or.inr (Or.inl rfl)), e⟩, if_neg (by omega), if_neg (by omega), if_pos ⟨rfl, e⟩, e2, nI_toInt (by omega)]
        exact ⟨z.1, z.2, z.1, by decide, by omega, by omega⟩
      · rw [if_neg (by omega), if_neg (by omega), if_neg (by omega), if_neg (by omega), if_neg (by omega), if_neg (by omega), if_neg (by omega), if_neg (by omega), if_neg (by omega), if_neg (by omega), if_neg (by omega), if_neg (by omega), if_neg (by omega), if_neg (by omega), if_neg (by omega)]
        exact hW.1 j (by have : j < n + 1 := hj; omega)
    · dsimp only
      rw [owr_ap, if_neg (by omega), if_neg (by omega), if_neg (by omega), if_neg (by omega), if_neg (by omega)]
      exact hW.2 q hq
    · dsimp only
      rw [owr_ap]
      by_cases e : j = n
      · rw [if_neg (by omega), if_pos ⟨rfl, e⟩, e1]
        exact ⟨c / 10, by omega, rfl⟩
      · rw [if_neg (by omega), if_neg (by omega), if_neg (by omega), if_neg (by omega), if_neg (by omega)]
        exact hK.1 j (by have : j < n + 1 := hj; omega)
    · dsimp only
      rw [owr_ap, if_neg (by omega), if_neg (by omega), if_neg (by omega), if_neg (by omega), if_neg (by omega)]
      exact hK.2
    · dsimp only
      unfold ow0
      rw [u3_ne _ (by decide), u3_ne _ (by decide), u3_ne _ (by decide), u3_ne _ (by decide), u3_ne _ (by decide), u3_ne _ (by decide), u3_ne _ (by decide), u3_ne _ (by decide)]
    · dsimp only
      rw [owr_ap, owr_ap, if_neg (by omega), if_neg (by omega), if_neg (by omega), if_neg (by omega), if_neg (by omega), if_neg (by omega), if_neg (by omega), if_neg (by omega), if_neg (by omega), if_neg (by omega)]
      exact ⟨rfl, rfl⟩
  · rw [if_neg h]
    exact ⟨Nat.le_refl _, hW, hK, rfl, fun _ _ => ⟨rfl, rfl⟩⟩
theorem KEP.trans {A1 A2 : Nat → tR} {n1 n2 : Nat} (h : KEP A A1 n n1) (k : KEP A1 A2 n1 n2) : KEP A A2 n n2 :=
  ⟨Nat.le_trans h.1 k.1, k.2.1, k.2.2.1, k.2.2.2.1.trans h.2.2.2.1, fun j hj => ⟨(k.2.2.2.2 j (by have := h.1; omega)).1.trans (h.2.2.2.2 j hj).1, (k.2.2.2.2 j (by have := h.1; omega)).2.trans (h.2.2.2.2 j hj).2⟩⟩
theorem obR_kep (s : Nat) : ∀ (k : Nat) (pl : Int32) (A : Nat → tR) (n c : Nat), WB n (A 0) → KB n (A 0) → KEP A (obR K s 0 k pl (A, n) c).2.1 n (obR K s 0 k pl (A, n) c).2.2
  | 0, _, A, n, _, hW, hK => ⟨Nat.le_refl _, hW, hK, rfl, fun _ _ => ⟨rfl, rfl⟩⟩
  | k + 1, pl, A, n, c, hW, hK => by
    simp only [obR]
    split
    · have h1 := ob1_kep (A := A) (n := n) (km := K s 0 pl.toNatClampNeg) (a := K s 0 (pl + 1).toNatClampNeg) hW hK
      exact h1.trans (obR_kep s k _ _ _ _ h1.2.1 h1.2.2.1)
    · exact ⟨Nat.le_refl _, hW, hK, rfl, fun _ _ => ⟨rfl, rfl⟩⟩
theorem st_6 (hR : RL A T K B E Y S n p t tc sz zs) (hd : 20 ≤ d) {v w : Int32} : St g d 90 160 [.int v, .int w] (117, H3 g (cc A T K B E l G) (mm Y S)) := by
  have hX := hR.cx
  have hn : A 0 12 0 = nI n := hX.1
  have hn12 := hX.2.1
  have hS0 := hR.1.n0
  have hS5 := hR.1.p0
  have hK := hR.2.2.2.2.1
  have hW := hR.2.2.1
  obtain ⟨_, _, x2, rfl, Y', S', rfl, hm, hf⟩ := (q_160u (d := d) (g := g) (N := 117) (P := cc (ob1 A 0 n v w).1 T K B E l G) (Y := Y) (S := S) (A := A) (r := 0) hR.1 (km := v) (a := w) (by omega)).ex
  have hk := ob1_kep hW hR.2.2.2.1 (km := v) (a := w)
  exact St_x (p_90 rfl rfl hn hn12 (by omega)) x2 (hR.road hf hm hk.2.1 hk.2.2.1 hk.1 hk.2.2.2.1 hk.2.2.2.2)
theorem st_32 (hR : RL A T K B E Y S n p t tc sz zs) (hd : 20 ≤ d) {v w u x : Int32} : St g d 120 209 [.int v, .int w, .int u, .int x] (117, H3 g (cc A T K B E l G) (mm Y S)) := by
  have hX := hR.cx
  have hn : A 0 12 0 = nI n := hX.1
  have hn12 := hX.2.1
  have hS0 := hR.1.n0
  have hS5 := hR.1.p0
  have hK := hR.2.2.2.2.1
  have hW := hR.2.2.1
  by_cases hb : (0 ≤ v ∧ v ≤ 3) ∧ (0 ≤ w ∧ w ≤ 2) ∧ (0 ≤ x ∧ x ≤ 12)
  · obtain ⟨s, hs, rfl⟩ := sheet_ix hb.1
    obtain ⟨nn, hnn, rfl⟩ := nI_of2 (x := x) (M := 12) (n := 12) rfl (Int32.not_lt.mpr hb.2.2.1) hb.2.2.2
    by_cases hm : K s 1 0 = -1
    · exact St_r hR (p_120b rfl rfl hs hb.2.1 hnn hm (by omega)) (q_209b hK hs hb.2.1 hnn hm (by omega))
    · by_cases hx : K s 1 0 = w
      · obtain ⟨c, hc, hsz⟩ := hR.2.2.2.2.2.1 s hs
        have hk := obR_kep (K := K) s nn u A n 0 hW hR.2.2.2.1
        have h1 := p_120 (d := d) (g := g) (N := 117) (A := A) (T := T) (K := K) (B := B) (E := E) (l := l) (G := G) (Qm := mm Y S) (r0 := 0) (r1 := 1) rfl rfl hs hb.2.1 (at0 := u) hnn hm hx hsz hc hn hn12 (by omega)
        have fin : ∀ P, Wp d 209 0 (ment 209 [.ref 92, .int (nI s), .int w, .int u, .int (nI nn)]) [] (117, H3 g P (mm Y S)) (fun v M' => v = some (.int (obR K s 0 nn u (A, n) 0).1) ∧ ∃ Y' S', M' = (117, H3 g P (mm Y' S')) ∧ MS Y' S' ((obR K s 0 nn u (A, n) 0).2.1 0) (T t) (zs t) (obR K s 0 nn u (A, n) 0).2.2 p t ∧ FRm Y S Y' S') := fun P => by
          by_cases h0 : u < 0
          · by_cases hn0 : 0 < nn
            · exact q_209n hR.1 hK hs hb.2.1 hnn hm hx hsz hc hn0 h0 (by omega)
            · have e0 : nn = 0 := by omega
              subst e0
              exact q_209z hR.1 hK hs hb.2.1 hm hx hsz hc (by omega)
          · obtain ⟨a, ha, rfl⟩ := nI_of h0
            exact q_209 hR.1 hK hs hb.2.1 hnn hm hx hsz hc ha (by omega)
        obtain ⟨_, _, x2, rfl, Y', S', rfl, hm', hf⟩ := (fin (cc (obR K s 0 nn u (A, n) 0).2.1 T K B E l G)).ex
        exact St_x h1 x2 (hR.road hf hm' hk.2.1 hk.2.2.1 hk.1 hk.2.2.2.1 hk.2.2.2.2)
      · exact St_r hR (p_120c rfl rfl hs hb.2.1 hnn hm hx (by omega)) (q_209c hK hs hb.2.1 hnn hm hx (by omega))
  · exact St_r hR (p_120a rfl rfl hb (by omega)) (q_209a hb (by omega))
theorem st_12 (hR : RL A T K B E Y S n p t tc sz zs) (hd : 20 ≤ d) : St g d 96 178 [] (117, H3 g (cc A T K B E l G) (mm Y S)) := by
  have hX := hR.cx
  have hn : A 0 12 0 = nI n := hX.1
  have hn12 := hX.2.1
  have hS0 := hR.1.n0
  have hS5 := hR.1.p0
  have hK := hR.2.2.2.2.1
  have hW := hR.2.2.1
  have e2 : S 8 = A 0 12 2 := hR.1.1.tw (b := 2) (by decide)
  have hb := hR.2.2.2.1.2
  by_cases hh : A 0 12 2 < 999
  · obtain ⟨G', h1⟩ := x_96 (d := d) (g := g) (N := 117) (A := A) (T := T) (K := K) (B := B) (E := E) (l := l) (G := G) (Qm := mm Y S) (r0 := 0) (r1 := 1) rfl rfl hn hn12 hX.2.2.2.2.2.1 hX.2.2.2.2.2.2 hX.2.2.1 hX.2.2.2.1 hX.2.2.2.2.1 hh (by omega)
    have hz : EQ n (lvA A 0 n 0) (zt (A 0)) := by
      intro a b us_
      unfold lvA zt
      rw [ftA_ap, u3_ap]
      by_cases c1 : a = 7 ∨ a = 8
      · rw [if_pos ⟨rfl, c1, by unfold us at us_; omega⟩, if_pos (by omega)]
      · rw [if_neg (fun q => c1 q.2.1)]
        by_cases c2 : a = 12 ∧ b = 5
        · rw [if_pos ⟨rfl, c2⟩, if_pos (by omega)]
        · rw [if_neg (fun q => c2 q.2), if_neg (by omega)]
    have hl0 : lvA A 0 n 0 12 0 = nI n := (lvA_12 _ _ _ _ (by decide)).trans hn
    have hq := hrA_eq (Lr := T t) (z := zs t) (A := lvA A 0 n) (r := 0) (A' := fun _ => zt (A 0)) (r' := 0) hn12 (m := p) hX.2.2.2.1 hz hl0
    rw [hq.sm7] at h1
    obtain ⟨_, _, x2, rfl, Y', S', rfl, hq2, hf⟩ := (q_178 (d := d) (g := g) (N := 117) (P := cc (hrA (lvA A 0 n) 0 (T t) (zs t) n p) T K B E l G') (Y := Y) (S := S) hR.1 (by
      intro q
      rw [e2] at q
      rw [q] at hh
      exact absurd hh (by decide)) (by omega)).ex
    have lvr : ∀ a b, ¬ (a = 7 ∨ a = 8 ∨ a = 12) → lvA A 0 n 0 a b = A 0 a b := fun a b q => by
      unfold lvA
      rw [ftA_ap, if_neg (by omega), u3_ap, if_neg (by omega)]
    have hw : WB n (lvA A 0 n 0) := ⟨fun j hj => by rw [lvr _ _ (by omega), lvr _ _ (by omega), lvr _ _ (by omega)]; exact hW.1 j hj, fun q hq => by rw [lvr _ _ (by omega)]; exact hW.2 q hq⟩
    have row : ∀ a b, ¬ (a = 2 ∨ a = 3 ∨ a = 7 ∨ a = 8 ∨ a = 9 ∨ a = 12) → hrA (lvA A 0 n) 0 (T t) (zs t) n p 0 a b = A 0 a b := fun a b q => (hrA_row _ _ _ _ _ _ _ _ _ q).trans (lvr _ _ (by omega))
    have tw : ∀ b, ¬ (b = 2 ∨ b = 5) → hrA (lvA A 0 n) 0 (T t) (zs t) n p 0 12 b = A 0 12 b := fun b q => (hrA_ap _ _ _ _ _ _ _ _ q).trans (lvA_12 _ _ _ _ (by omega))
    refine St_x (n' := n) (p' := p) (t' := t) (tc' := tc) (sz' := sz) (zs' := zs) h1 x2 (hR.road hf ?_ (hrA_wb hn12 hw hl0) ⟨fun j hj => by rw [row _ _ (by omega)]; exact hR.2.2.2.1.1 j hj, ?_⟩ (Nat.le_refl _) ?_ (fun j _ => ⟨row _ _ (by omega), row _ _ (by omega)⟩))
    · obtain ⟨m1, m2, m3, m4, m5, m6, m7, m8, m9, m10⟩ := hR.1
      exact ⟨ES.of_EQ (hq2.trans hq.symm), (tw 0 (by decide)).trans m2, m3, (tw 1 (by decide)).trans m4, m5, (tw 4 (by decide)).trans m6, m7, m8, hf.lm m9, fun j hj => by rw [row _ _ (by omega)]; exact m10 j hj⟩
    · have e : hrA (lvA A 0 n) 0 (T t) (zs t) n p 0 12 2 = A 0 12 2 + 1 := by
        show u3 _ _ _ _ _ _ 12 2 = _
        rw [u3_ap, if_pos ⟨rfl, rfl, rfl⟩, blA_ap _ _ _ _ _ (by omega), osA_ap _ _ _ _ _ _ _ (by omega), psA_ap _ _ _ _ _ _ _ (by omega), snA_ap _ _ _ _ _ _ _ (by omega), lvA_12 _ _ _ _ (by decide)]
      rw [e, addT (by omega) (by omega) (by decide) (by decide), show (1 : Int32).toInt = 1 from rfl]
      rw [Int32.lt_iff_toInt_lt, show (999 : Int32).toInt = 999 from rfl] at hh
      omega
    · rw [hrA_ne (by decide)]
      unfold lvA
      funext a b
      rw [ftA_ap, if_neg (by omega), u3_ap, if_neg (by omega)]
  · refine St_r hR (x_96f rfl rfl hh (by omega)) (q_178f ?_ (by omega))
    rw [e2]
    rw [Int32.lt_iff_toInt_lt, show (999 : Int32).toInt = 999 from rfl] at hh
    exact Int32.toInt_inj.mp (by rw [show (999 : Int32).toInt = 999 from rfl]; omega)
end
