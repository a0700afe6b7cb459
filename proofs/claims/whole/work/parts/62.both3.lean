/-! BOTH TOGETHER: feed, film, image, back, sheets (wip/whole/gen62.py) -/
section
variable {g : mG} {d zc zm : Nat} {vs : List Value} {A T K : Nat → tR} {B : tR} {E : Nat → Int32} {l : Int64} {G : tR} {Y : tR} {S : Nat → Int32} {n p t tc sz : Nat} {zs : Nat → Nat → Nat}
theorem byte_ix {v : Int32} (h : 0 ≤ v ∧ v ≤ 255) : 0 ≤ v.toInt ∧ v.toInt ≤ 255 := bnd (c := 255) (by decide) h
theorem byf_bnd {a b c e f : Int32} (hb : (0 ≤ a ∧ a ≤ 255) ∧ (0 ≤ b ∧ b ≤ 255) ∧ (0 ≤ c ∧ c ≤ 255) ∧ (0 ≤ e ∧ e ≤ 255) ∧ (0 ≤ f ∧ f ≤ 255)) (i : Nat) : 0 ≤ (byf a b c e f i).toInt ∧ (byf a b c e f i).toInt ≤ 255 := by
  unfold byf
  repeat' split
  · exact byte_ix hb.1
  · exact byte_ix hb.2.1
  · exact byte_ix hb.2.2.1
  · exact byte_ix hb.2.2.2.1
  · exact byte_ix hb.2.2.2.2
theorem MS.fr2 {Y' : tR} {S' : Nat → Int32} {R Lr : tR} {z : Nat → Nat} (h : MS Y S R Lr z n p t) (hY : ∀ i, ¬ (i = 6 ∨ i = 9 ∨ i = 10 ∨ i = 11 ∨ i = 12 ∨ i = 13) → Y' i = Y i) (hS : ∀ j, ¬ (j = 11 ∨ j = 16) → S' j = S j) : MS Y' S' R Lr z n p t := by
  obtain ⟨m1, m2, m3, m4, m5, m6, m7, m8, m9, m10⟩ := h
  refine ⟨?_, m2, m3, m4, m5, m6, m7, m8, ?_, m10⟩
  · refine ES.trans (ES.of (fun a b ha hb => ?_) (fun a b ha ha2 hb => ?_) (fun b hb => ?_)) m1
    · have : a = 0 ∨ a = 1 ∨ a = 2 ∨ a = 3 ∨ a = 4 ∨ a = 5 ∨ a = 6 := by omega
      rcases this with rfl | rfl | rfl | rfl | rfl | rfl | rfl
      · exact congrFun (hY 0 (by decide)) b
      · exact congrFun (hY 1 (by decide)) b
      · exact congrFun (hY 2 (by decide)) _
      · exact congrFun (hY 2 (by decide)) _
      · exact congrFun (hY 2 (by decide)) _
      · exact congrFun (hY 2 (by decide)) _
      · exact congrFun (hY 2 (by decide)) _
    · have : a = 9 ∨ a = 10 ∨ a = 11 := by omega
      rcases this with rfl | rfl | rfl
      · exact congrFun (hY 3 (by decide)) b
      · exact congrFun (hY 4 (by decide)) b
      · exact congrFun (hY 5 (by decide)) b
    · have : b = 0 ∨ b = 1 ∨ b = 2 ∨ b = 3 ∨ b = 4 := by omega
      rcases this with rfl | rfl | rfl | rfl | rfl
      · exact hS 0 (by decide)
      · exact hS 5 (by decide)
      · exact hS 8 (by decide)
      · exact hS 9 (by decide)
      · exact hS 15 (by decide)
  · unfold LM at m9 ⊢
    rw [hY 8 (by decide), hY 7 (by decide)]
    exact m9
theorem LM.eq {Y' : tR} {Lr : tR} {z : Nat → Nat} {i : Nat} (h7 : Y' 7 = Y 7) (h8 : Y' 8 = Y 8) (h : LM Y i Lr z) : LM Y' i Lr z := by
  unfold LM at h ⊢
  rw [h7, h8]
  exact h
/-- other sheets, all else as it was -/
theorem RL.sheet {K' : Nat → tR} {Y' : tR} (h : RL A T K B E Y S n p t tc sz zs) (hY : ∀ i, ¬ (i = 11 ∨ i = 12 ∨ i = 13) → Y' i = Y i) (hK : SHR K' Y') (hs : SHS K') : RL A T K' B E Y' S n p t tc sz zs := by
  obtain ⟨a1, a2, a3, a4, a5, a6, a7, a8, a9, b1⟩ := h
  refine ⟨a1.fr2 (fun i hi => hY i (by omega)) (fun _ _ => rfl), ⟨a2.1, a2.2.1, a2.2.2.1, a2.2.2.2.1, fun i hi => ⟨(a2.2.2.2.2 i hi).1, (a2.2.2.2.2 i hi).2.eq (hY 7 (by decide)) (hY 8 (by decide))⟩⟩, a3, a4, hK, hs, ⟨a7.1, a7.2.1, a7.2.2.1, by rw [hY 6 (by decide)]; exact a7.2.2.2⟩, a8, ?_, (hY 15 (by decide)).trans b1⟩
  rcases a9 with q | q
  · exact Or.inl q
  · exact Or.inr (q.fr (Nat.le_refl _) (Nat.le_refl _) (fun _ _ => ⟨rfl, rfl⟩) (hY 9 (by decide)) (hY 10 (by decide)))
theorem shx_shr {K K' : Nat → tR} {Y Y' : tR} {s : Nat} {so sz : Int32} {f : Nat → Int32} (hs : s < 4) (hK : SHR K Y) (hX : SHX s so sz f Y Y') (h0 : K' s 1 0 = so) (h1 : K' s 1 1 = sz) (hf : ∀ k, k < 40 → K' s 0 k = f k) (ho : ∀ r, ¬ r = s → K' r = K r) : SHR K' Y' := by
  intro r hr
  obtain ⟨x1, x2, x3, x4, x5⟩ := hX
  by_cases e : r = s
  · subst e
    refine ⟨?_, ?_, fun k hk => ?_⟩
    · rw [x2, va_same, h0]
    · rw [x3, va_same, h1]
    · rw [x4 k hk, hf k hk]
  · rw [ho r e]
    have q := hK r hr
    refine ⟨?_, ?_, fun k hk => ?_⟩
    · rw [x2, va_oth _ _ e]; exact q.1
    · rw [x3, va_oth _ _ e]; exact q.2.1
    · rw [x5 _ (by omega)]; exact q.2.2 k hk
theorem shs_of {K' : Nat → tR} {s c : Nat} (h : SHS K) (h1 : K' s 1 1 = nI c) (hc : c ≤ 40) (ho : ∀ r, ¬ r = s → K' r = K r) : SHS K' := by
  intro r hr
  by_cases e : r = s
  · subst e; exact ⟨c, hc, h1⟩
  · rw [ho r e]; exact h r hr
theorem shZ_ne {s r : Nat} (h : ¬ r = s) : ∀ i, shZ K s i r = K r
  | 0 => rfl
  | i + 1 => by rw [shZ, u3_ne _ h, shZ_ne h i]
theorem st_2 (hR : RL A T K B E Y S n p t tc sz zs) (hd : 20 ≤ d) {v w u x y q_ : Int32} : St g d 86 143 [.int v, .int w, .int u, .int x, .int y, .int q_] (117, H3 g (cc A T K B E l G) (mm Y S)) := by
  have hX := hR.cx
  have hn : A 0 12 0 = nI n := hX.1
  have hn12 := hX.2.1
  have hS0 := hR.1.n0
  have hS5 := hR.1.p0
  have hK := hR.2.2.2.2.1
  have hW := hR.2.2.1
  obtain ⟨p1, p2, p3, p4⟩ := hR.2.2.2.2.2.2.1
  by_cases hb : (1 ≤ v ∧ v ≤ 5) ∧ (0 ≤ w ∧ w ≤ 255) ∧ (0 ≤ u ∧ u ≤ 255) ∧ (0 ≤ x ∧ x ≤ 255) ∧ (0 ≤ y ∧ y ≤ 255) ∧ (0 ≤ q_ ∧ q_ ≤ 255)
  · obtain ⟨nn, hnn, rfl⟩ := nI_of2 (x := v) (M := 5) (n := 5) rfl (Int32.not_lt.mpr (Int32.le_trans (by decide) hb.1.1)) hb.1.2
    have h1 := (nI_leI (a := 1) (b := nn) (by decide) (by omega)).mp hb.1.1
    by_cases hok : sz + nn ≤ 160
    · refine St_x (n' := n) (p' := p) (t' := t) (tc' := tc) (sz' := sz + nn) (zs' := zs) (p_86 rfl rfl h1 hnn hb.2 p1 p3 hok (by omega)) (q_143 h1 hnn hb.2 p2 p3 hok (by omega)) ?_
      obtain ⟨a1, a2, a3, a4, a5, a6, a7, a8, a9, b1⟩ := hR
      have hY : ∀ i, ¬ i = 6 → tpY (byf w u x y q_) Y sz nn i = Y i := fun i hi => tpY_o hi nn
      have hS : ∀ j, ¬ j = 11 → tpS S sz nn j = S j := fun j hj => tpS_o hj nn
      refine ⟨a1.fr2 (fun i hi => hY i (by omega)) (fun j hj => hS j (by omega)), ⟨a2.1, a2.2.1, a2.2.2.1, (hS 14 (by decide)).trans a2.2.2.2.1, fun i hi => ⟨(a2.2.2.2.2 i hi).1, (a2.2.2.2.2 i hi).2.eq (hY 7 (by decide)) (hY 8 (by decide))⟩⟩, a3, a4, fun s hs => by rw [hY 11 (by decide), hY 12 (by decide), hY 13 (by decide)]; exact a5 s hs, a6, ⟨adN_sz p1 nn, tpS_11 p2 nn, hok, fun k hk => ?_⟩, a8.trans (hS 16 (by decide)).symm, ?_, (hY 15 (by decide)).trans b1⟩
      · rw [adN_ap, tpY_ap]
        by_cases e : sz ≤ k ∧ k < sz + nn
        · rw [if_pos e, if_pos e]
          exact ⟨rfl, byf_bnd hb.2 _⟩
        · rw [if_neg e, if_neg e]
          exact p4 k (by omega)
      · rcases a9 with q | q
        · exact Or.inl q
        · exact Or.inr (q.fr (Nat.le_refl _) (Nat.le_refl _) (fun _ _ => ⟨rfl, rfl⟩) (hY 9 (by decide)) (hY 10 (by decide)))
    · exact St_r hR (p_86f rfl rfl h1 hnn hb.2 p1 p3 (by omega) (by omega)) (q_143f h1 hnn hb.2 p2 p3 (by omega) (by omega))
  · exact St_r hR (p_86a rfl rfl hb (by omega)) (q_143a hb (by omega))
theorem st_24 (hR : RL A T K B E Y S n p t tc sz zs) (hd : 20 ≤ d) {v w : Int32} : St g d 110 199 [.int v, .int w] (117, H3 g (cc A T K B E l G) (mm Y S)) := by
  have hX := hR.cx
  have hn : A 0 12 0 = nI n := hX.1
  have hn12 := hX.2.1
  have hS0 := hR.1.n0
  have hS5 := hR.1.p0
  have hK := hR.2.2.2.2.1
  have hW := hR.2.2.1
  by_cases hb : (0 ≤ v ∧ v ≤ 3) ∧ (0 ≤ w ∧ w ≤ 48)
  · obtain ⟨s, hs, rfl⟩ := sheet_ix hb.1
    obtain ⟨m, hm, rfl⟩ := h48 hb.2
    obtain ⟨_, _, x1, rfl, A', l', G', rfl, hA⟩ := (p_110 (d := d) (g := g) (N := 117) (A := A) (T := T) (K := K) (B := B) (E := E) (l := l) (G := G) (Qm := mm Y S) (r0 := 0) (r1 := 1) rfl rfl hX hm hs (by omega)).ex
    obtain ⟨_, _, x2, rfl, Y1, Y', S', rfl, hf, hF⟩ := (q_199 (d := d) (g := g) (N := 117) (P := cc A' T (flK K s n (gon (A 0) (T t) (zs t) n p m 2) n) B E l' G') (Y := Y) (S := S) hR.1 hW hm hs (by omega)).ex
    have hw := gon_wb (Lr := T t) (z := zs t) (p := p) (m := m) hn12 hn hW
    have hne : ∀ r, ¬ r = s → flK K s n (gon (A 0) (T t) (zs t) n p m 2) n r = K r := fun r e => funext fun a => funext fun b => by
      rw [flK_ap, if_neg (fun q => e q.1), if_neg (fun q => e q.1), if_neg (fun q => e q.1), if_neg (fun q => e q.1)]
    have e1 : flK K s n (gon (A 0) (T t) (zs t) n p m 2) n s 1 1 = nI n := by rw [flK_ap, if_neg (by omega), if_neg (by omega), if_pos ⟨rfl, rfl, rfl⟩]
    have hX1 : SHX s 1 (nI n) (fun k => if k < n then gon (A 0) (T t) (zs t) n p m 2 k else 0) Y1 Y' := hF
    refine St_x (n' := n) (p' := p) (t' := t) (tc' := tc) (sz' := sz) (zs' := zs) x1 x2 ((hR.ro hA hf).sheet hF.1 (shx_shr hs (hK.c hf) hX1 ?_ e1 (fun k hk => ?_) hne) (shs_of hR.2.2.2.2.2.1 e1 (by omega) hne))
    · rw [flK_ap, if_neg (by omega), if_neg (by omega), if_neg (by omega), if_pos ⟨rfl, rfl, rfl⟩]
    · rw [flK_ap]
      by_cases e : k < n
      · rw [if_pos ⟨rfl, rfl, e⟩]
        exact (i16_id ⟨(hw.1 k e).1, (hw.1 k e).2.1⟩).trans (if_pos e).symm
      · rw [if_neg (fun q => e q.2.2), if_pos ⟨rfl, rfl, hk⟩]
        exact (if_neg e).symm
  · exact St_r hR (p_110a rfl rfl hb (by omega)) (q_199a hR.1 hW hb (by omega))
theorem st_29 (hR : RL A T K B E Y S n p t tc sz zs) (hd : 20 ≤ d) {v w u : Int32} : St g d 117 206 [.int v, .int w, .int u] (117, H3 g (cc A T K B E l G) (mm Y S)) := by
  have hX := hR.cx
  have hn : A 0 12 0 = nI n := hX.1
  have hn12 := hX.2.1
  have hS0 := hR.1.n0
  have hS5 := hR.1.p0
  have hK := hR.2.2.2.2.1
  have hW := hR.2.2.1
  by_cases hb : (0 ≤ v ∧ v ≤ 3) ∧ (-1 ≤ w ∧ w ≤ 2) ∧ (w = -1 ∨ u ≤ 40)
  · obtain ⟨s, hs, rfl⟩ := sheet_ix hb.1
    by_cases h1 : w = -1
    · subst h1
      obtain ⟨_, _, x2, rfl, Y', rfl, hF⟩ := (q_206m (d := d) (g := g) (N := 117) (P := cc A T (shZ (u3 (u3 K s 1 0 (-1)) s 1 1 0) s 40) B E l G) (Y := Y) (S := S) hs (w := u) (by omega)).ex
      have e1 : shZ (u3 (u3 K s 1 0 (-1)) s 1 1 0) s 40 s 1 1 = nI 0 := by rw [shZ_ap, if_neg (by omega), u3_ap, if_pos ⟨rfl, rfl, rfl⟩]; rfl
      have hne : ∀ r, ¬ r = s → shZ (u3 (u3 K s 1 0 (-1)) s 1 1 0) s 40 r = K r := fun r e => by rw [shZ_ne e, u3_ne _ e, u3_ne _ e]
      refine St_x (n' := n) (p' := p) (t' := t) (tc' := tc) (sz' := sz) (zs' := zs) (p_117m rfl rfl hs (by omega)) x2 (hR.sheet hF.1 (shx_shr hs hK hF ?_ e1 (fun k hk => ?_) hne) (shs_of hR.2.2.2.2.2.1 e1 (by decide) hne))
      · rw [shZ_ap, if_neg (by omega), u3_ap, if_neg (by omega), u3_ap, if_pos ⟨rfl, rfl, rfl⟩]
      · rw [shZ_ap, if_pos ⟨rfl, rfl, hk⟩]
    · have hu : u ≤ 40 := hb.2.2.elim (fun q => absurd q h1) (fun q => q)
      by_cases h0 : u < 0
      · exact St_r hR (p_117b rfl rfl hs hb.2.1 h1 hu h0 (by omega)) (q_206b hs hb.2.1 h1 hu h0 (by omega))
      · have h0' := Int32.not_lt.mp h0
        obtain ⟨c, hc, rfl⟩ := nI_of2 (x := u) (M := 40) (n := 40) rfl h0 hu
        obtain ⟨_, _, x2, rfl, Y', rfl, hF⟩ := (q_206 (d := d) (g := g) (N := 117) (P := cc A T (shZ (u3 (u3 K s 1 0 w) s 1 1 (nI c)) s 40) B E l G) (Y := Y) (S := S) hs hb.2.1 h1 hu h0' (by omega)).ex
        have e1 : shZ (u3 (u3 K s 1 0 w) s 1 1 (nI c)) s 40 s 1 1 = nI c := by rw [shZ_ap, if_neg (by omega), u3_ap, if_pos ⟨rfl, rfl, rfl⟩]
        have hne : ∀ r, ¬ r = s → shZ (u3 (u3 K s 1 0 w) s 1 1 (nI c)) s 40 r = K r := fun r e => by rw [shZ_ne e, u3_ne _ e, u3_ne _ e]
        refine St_x (n' := n) (p' := p) (t' := t) (tc' := tc) (sz' := sz) (zs' := zs) (p_117 rfl rfl hs hb.2.1 h1 hu h0' (by omega)) x2 (hR.sheet hF.1 (shx_shr hs hK hF ?_ e1 (fun k hk => ?_) hne) (shs_of hR.2.2.2.2.2.1 e1 hc hne))
        · rw [shZ_ap, if_neg (by omega), u3_ap, if_neg (by omega), u3_ap, if_pos ⟨rfl, rfl, rfl⟩]
        · rw [shZ_ap, if_pos ⟨rfl, rfl, hk⟩]
  · exact St_r hR (p_117a rfl rfl hb (by omega)) (q_206a hb (by omega))
theorem st_30 (hR : RL A T K B E Y S n p t tc sz zs) (hd : 20 ≤ d) {v w u : Int32} : St g d 118 207 [.int v, .int w, .int u] (117, H3 g (cc A T K B E l G) (mm Y S)) := by
  have hX := hR.cx
  have hn : A 0 12 0 = nI n := hX.1
  have hn12 := hX.2.1
  have hS0 := hR.1.n0
  have hS5 := hR.1.p0
  have hK := hR.2.2.2.2.1
  have hW := hR.2.2.1
  by_cases hb : 0 ≤ v ∧ v ≤ 3
  · obtain ⟨s, hs, rfl⟩ := sheet_ix hb
    by_cases hm : K s 1 0 = -1
    · exact St_r hR (p_118b rfl rfl hs hm (by omega)) (q_207b hK hs hm (by omega))
    · obtain ⟨c, hc, hsz⟩ := hR.2.2.2.2.2.1 s hs
      by_cases hi0 : 0 ≤ w ∧ w < nI c
      · obtain ⟨i, hi, rfl⟩ : ∃ i, i < c ∧ w = nI i := by
          obtain ⟨i, hi31, rfl⟩ := nI_of (Int32.not_lt.mpr hi0.1)
          exact ⟨i, (nI_ltI (a := i) (b := c) hi31 (by omega)).mp hi0.2, rfl⟩
        refine St_x (n' := n) (p' := p) (t' := t) (tc' := tc) (sz' := sz) (zs' := zs) (p_118 rfl rfl hs hm hsz hc hi (by omega)) (q_207 hK hs hm hsz hc hi (by omega)) (hR.sheet (fun a ha => u2_row (by omega)) ?_ ?_)
        · intro r hr
          have q := hK r hr
          rw [u2_row (show ¬ 11 = 13 by decide), u2_row (show ¬ 12 = 13 by decide), u3_ap, if_neg (by omega), u3_ap, if_neg (by omega)]
          refine ⟨q.1, q.2.1, fun k hk => ?_⟩
          rw [u2_ap, u3_ap]
          by_cases e : r = s ∧ k = i
          · rw [if_pos ⟨rfl, by omega⟩, if_pos ⟨e.1, rfl, e.2⟩]
          · rw [if_neg (by omega), if_neg (fun t => e ⟨t.1, t.2.2⟩)]
            exact q.2.2 k hk
        · intro r hr
          rw [u3_ap, if_neg (by omega)]
          exact hR.2.2.2.2.2.1 r hr
      · exact St_r hR (p_118c rfl rfl hs hm (by rw [hsz]; exact hi0) (by omega)) (q_207c hK hs hm hsz hc hi0 (by omega))
  · exact St_r hR (p_118a rfl rfl hb (by omega)) (q_207a hb (by omega))
theorem st_31 (hR : RL A T K B E Y S n p t tc sz zs) (hd : 20 ≤ d) {v w u x y : Int32} : St g d 119 208 [.int v, .int w, .int u, .int x, .int y] (117, H3 g (cc A T K B E l G) (mm Y S)) := by
  have hX := hR.cx
  have hn : A 0 12 0 = nI n := hX.1
  have hn12 := hX.2.1
  have hS0 := hR.1.n0
  have hS5 := hR.1.p0
  have hK := hR.2.2.2.2.1
  have hW := hR.2.2.1
  by_cases hb : (0 ≤ v ∧ v ≤ 3) ∧ (0 ≤ u ∧ u ≤ 3)
  · obtain ⟨s, hs, rfl⟩ := sheet_ix hb.1
    obtain ⟨e, he, rfl⟩ := sheet_ix hb.2
    by_cases hm : ¬ K s 1 0 = -1 ∧ ¬ K e 1 0 = -1
    · by_cases hq : K s 1 0 = K e 1 0
      · obtain ⟨a, ha, hsa⟩ := hR.2.2.2.2.2.1 s hs
        obtain ⟨b, hb', hsb⟩ := hR.2.2.2.2.2.1 e he
        by_cases hp : (0 ≤ w ∧ 0 ≤ y ∧ y ≤ nI a - w) ∧ (0 ≤ x ∧ 0 ≤ y ∧ y ≤ nI b - x)
        · obtain ⟨i, m, rfl, rfl, h1⟩ := places_of ha hp.1
          obtain ⟨j, m', rfl, em, h2⟩ := places_of hb' hp.2
          have em' : m = m' := by
            by_cases q : m < 2 ^ 31 ∧ m' < 2 ^ 31
            · exact (nI_eq q.1 q.2).mp em
            · omega
          subst em'
          obtain ⟨_, _, x2, rfl, Y', rfl, hY, h13⟩ := (q_208 (d := d) (g := g) (N := 117) (P := cc A T (va_up K e (va_up (K e) 0 (va_cpy (K s 0) (K e 0) i j m))) B E l G) (Y := Y) (S := S) hK hs he hm hq hsa hsb ha hb' h1 h2 (by omega)).ex
          refine St_x (n' := n) (p' := p) (t' := t) (tc' := tc) (sz' := sz) (zs' := zs) (p_119 rfl rfl hs he hm hq hsa hsb ha hb' h1 h2 (by omega)) x2 (hR.sheet (fun a ha => hY a (by omega)) ?_ ?_)
          · intro r hr
            have q := hK r hr
            have g0 : ∀ c, va_up K e (va_up (K e) 0 (va_cpy (K s 0) (K e 0) i j m)) r 1 c = K r 1 c := fun c => by
              by_cases er : r = e
              · subst er; rw [va_same, va_oth _ _ (by decide)]
              · rw [va_oth _ _ er]
            rw [hY 11 (by decide), hY 12 (by decide), g0, g0, h13]
            refine ⟨q.1, q.2.1, fun k hk => ?_⟩
            have src : ∀ c, c < 40 → Y 13 (40 * s + c) = K s 0 c := fun c hc => (hK s hs).2.2 c hc
            have cp : cpy (Y 13) (40 * s + i) (40 * e + j) m m (40 * r + k) = if r = e ∧ j ≤ k ∧ k < j + m then K s 0 (i + (k - j)) else K r 0 k := by
              unfold cpy
              by_cases c1 : r = e ∧ j ≤ k ∧ k < j + m
              · rw [if_pos c1]
                have t2 : Y 13 (40 * s + i + (40 * r + k - (40 * e + j))) = K s 0 (i + (k - j)) := by
                  rw [c1.1, show 40 * s + i + (40 * e + k - (40 * e + j)) = 40 * s + (i + (k - j)) by omega]
                  exact src _ (by omega)
                by_cases c2 : 40 * s + i < 40 * e + j
                · rw [if_pos c2, if_pos (by omega)]; exact t2
                · rw [if_neg c2, if_pos (by omega)]; exact t2
              · rw [if_neg c1]
                by_cases c2 : 40 * s + i < 40 * e + j
                · rw [if_pos c2, if_neg (by omega)]; exact q.2.2 k hk
                · rw [if_neg c2, if_neg (by omega)]; exact q.2.2 k hk
            rw [cp]
            by_cases er : r = e
            · subst er
              rw [va_same, va_same]
              by_cases c1 : j ≤ k ∧ k < j + m
              · rw [if_pos ⟨rfl, c1⟩, pk_cpy_in c1.1 c1.2]
              · rw [if_neg (fun t => c1 t.2), pk_cpy_out (by omega)]
            · rw [if_neg (fun t => er t.1), va_oth _ _ er]
          · intro r hr
            by_cases er : r = e
            · subst er
              rw [va_same, va_oth _ _ (by decide)]
              exact ⟨b, hb', hsb⟩
            · rw [va_oth _ _ er]; exact hR.2.2.2.2.2.1 r hr
        · exact St_r hR (p_119d rfl rfl hs he hm hq (by rw [hsa, hsb]; exact hp) (by omega)) (q_208d hK hs he hm hq hsa hsb ha hb' hp (by omega))
      · exact St_r hR (p_119c rfl rfl hs he hm hq (by omega)) (q_208c hK hs he hm hq (by omega))
    · exact St_r hR (p_119b rfl rfl hs he hm (by omega)) (q_208b hK hs he hm (by omega))
  · exact St_r hR (p_119a rfl rfl hb (by omega)) (q_208a hb (by omega))
theorem st_27 (hR : RL A T K B E Y S n p t tc sz zs) (hd : 20 ≤ d) : St g d 115 204 [] (117, H3 g (cc A T K B E l G) (mm Y S)) := by
  have hX := hR.cx
  have hn : A 0 12 0 = nI n := hX.1
  have hn12 := hX.2.1
  have hS0 := hR.1.n0
  have hS5 := hR.1.p0
  have hK := hR.2.2.2.2.1
  have hW := hR.2.2.1
  obtain ⟨_, _, x2, rfl, Y', rfl, hI, hY⟩ := (q_204 (d := d) (g := g) (N := 117) (P := cc (bkA A 2 0 n) T K B (va_up E 0 1) l G) (Y := Y) (S := S) (by omega)).ex
  rw [hS0] at x2
  refine St_x (n' := n) (p' := p) (t' := t) (tc' := tc) (sz' := sz) (zs' := zs) (p_115 rfl rfl rfl hn hn12 (by omega)) x2 ?_
  obtain ⟨a1, a2, a3, a4, a5, a6, a7, a8, a9, b1⟩ := hR
  have e0 : bkA A 2 0 n 0 = A 0 := bkA_ne (by decide)
  have eu : ∀ a b, (a < 7 ∧ b < n) ∨ ((a = 9 ∨ a = 10 ∨ a = 11) ∧ b < 6) ∨ (a = 12 ∧ b < 5) → bkA A 2 0 n 2 a b = A 0 a b := fun a b q => by unfold bkA; rw [if_pos ⟨rfl, q⟩]
  obtain ⟨i1, i2, i3, i4, i5, i6, i7⟩ := hI
  refine ⟨by rw [e0]; exact a1.fr2 (fun i hi => hY i (by omega)) (fun j hj => va_oth _ _ (by omega)), ⟨a2.1, a2.2.1, (va_oth _ _ (by decide)).trans a2.2.2.1, (va_oth _ _ (by decide)).trans a2.2.2.2.1, fun i hi => ⟨(a2.2.2.2.2 i hi).1, (a2.2.2.2.2 i hi).2.eq (hY 7 (by decide)) (hY 8 (by decide))⟩⟩, by rw [e0]; exact a3, by rw [e0]; exact a4, fun s hs => by rw [hY 11 (by decide), hY 12 (by decide), hY 13 (by decide)]; exact a5 s hs, a6, ⟨a7.1, (va_oth _ _ (by decide)).trans a7.2.1, a7.2.2.1, by rw [hY 6 (by decide)]; exact a7.2.2.2⟩, (va_same _ _ _).trans (va_same _ _ _).symm, Or.inr ?_, (hY 15 (by decide)).trans b1⟩
  rw [e0]
  have r2 : ∀ k, k < 5 → ∀ j, j < n → Y 2 (5 * j + k) = A 0 (k + 2) j := by
    intro k hk j hj
    have : k = 0 ∨ k = 1 ∨ k = 2 ∨ k = 3 ∨ k = 4 := by omega
    rcases this with rfl | rfl | rfl | rfl | rfl
    · exact a1.1.lo (a := 2) (b := j) (by decide) hj
    · exact a1.1.lo (a := 3) (b := j) (by decide) hj
    · exact a1.1.lo (a := 4) (b := j) (by decide) hj
    · exact a1.1.lo (a := 5) (b := j) (by decide) hj
    · exact a1.1.lo (a := 6) (b := j) (by decide) hj
  refine ⟨n, p, t, (eu 12 0 (by omega)).trans hn, Nat.le_refl _, (eu 12 1 (by omega)).trans hX.2.2.1, hX.2.2.2.1, (eu 12 4 (by omega)).trans hX.2.2.2.2.1, a2.1.1, ⟨fun j hj => ?_, fun q hq => ?_⟩, ⟨fun j hj => ?_, ?_⟩, fun j hj => ?_, fun j hj => ?_, fun k hk => ?_, ?_⟩
  · rw [eu _ _ (by omega), eu _ _ (by omega), eu _ _ (by omega)]; exact hW.1 j hj
  · rw [eu _ _ (by omega)]; exact hW.2 q hq
  · rw [eu _ _ (by omega)]; exact a4.1 j hj
  · rw [eu _ _ (by omega)]; exact a4.2
  · rw [eu _ _ (by omega), eu _ _ (by omega)]; exact ⟨rfl, rfl⟩
  · rw [eu _ _ (by omega), eu _ _ (by omega), eu _ _ (by omega), eu _ _ (by omega), eu _ _ (by omega), i1 _ (by omega), i1 _ (by omega), i1 _ (by omega), i1 _ (by omega), i1 _ (by omega)]
    exact ⟨r2 0 (by decide) j hj, r2 1 (by decide) j hj, r2 2 (by decide) j hj, r2 3 (by decide) j hj, r2 4 (by decide) j hj⟩
  · rw [eu _ _ (by omega), eu _ _ (by omega), eu _ _ (by omega), (i2 k hk).1, (i2 k hk).2.1, (i2 k hk).2.2]
    exact ⟨a1.1.hi (a := 9) (b := k) (by decide) (by decide) hk, a1.1.hi (a := 10) (b := k) (by decide) (by decide) hk, a1.1.hi (a := 11) (b := k) (by decide) (by decide) hk⟩
  · rw [eu _ _ (by omega), eu _ _ (by omega), eu _ _ (by omega), eu _ _ (by omega), eu _ _ (by omega), i3, i4, i5, i6, i7]
    exact ⟨a1.1.tw (b := 0) (by decide), a1.1.tw (b := 1) (by decide), a1.1.tw (b := 2) (by decide), a1.1.tw (b := 3) (by decide), a1.1.tw (b := 4) (by decide)⟩
theorem st_28 (hR : RL A T K B E Y S n p t tc sz zs) (hd : 20 ≤ d) : St g d 116 205 [] (117, H3 g (cc A T K B E l G) (mm Y S)) := by
  have hX := hR.cx
  have hn : A 0 12 0 = nI n := hX.1
  have hn12 := hX.2.1
  have hS0 := hR.1.n0
  have hS5 := hR.1.p0
  have hK := hR.2.2.2.2.1
  have hW := hR.2.2.1
  by_cases hk : E 0 = 0
  · exact St_r hR (p_116a rfl rfl rfl hk (by omega)) (q_205a (by rw [← hR.2.2.2.2.2.2.2.1]; exact hk) (by omega))
  · obtain ⟨a1, a2, a3, a4, a5, a6, a7, a8, a9, b1⟩ := hR
    have hI := a9.elim (fun q => absurd q hk) (fun q => q)
    obtain ⟨nk, pk_, tk, c1, c2, c3, c4, c5, c6, c7, c8, c9, d1, d2, d3, d4, d5, d6, d7⟩ := hI
    obtain ⟨_, _, x2, rfl, Y', S', rfl, y2, y3, yo, s0, s5, s8, s9, s15, so⟩ := (q_205 (d := d) (g := g) (N := 117) (P := cc (bkA A 0 2 nk) T K B E l G) (Y := Y) (S := S) (by rw [← a8]; exact hk) (by omega)).ex
    rw [d3, c1] at x2
    refine St_x (n' := nk) (p' := pk_) (t' := tk) (tc' := tc) (sz' := sz) (zs' := zs) (p_116 rfl rfl rfl hk c1 (by omega) (by omega)) x2 ?_
    have e2 : bkA A 0 2 nk 2 = A 2 := bkA_ne (by decide)
    have eu : ∀ a b, (a < 7 ∧ b < nk) ∨ ((a = 9 ∨ a = 10 ∨ a = 11) ∧ b < 6) ∨ (a = 12 ∧ b < 5) → bkA A 0 2 nk 0 a b = A 2 a b := fun a b q => by unfold bkA; rw [if_pos ⟨rfl, q⟩]
    have hL := (a2.2.2.2.2 tk c6)
    have t6 := a2.2.1
    have r2 : ∀ k, k < 5 → ∀ j, j < nk → Y' 2 (5 * j + k) = A 2 (k + 2) j := by
      intro k hk5 j hj
      rw [y2 _ (by omega)]
      obtain ⟨q0, q1, q2, q3, q4⟩ := d1 j hj
      have : k = 0 ∨ k = 1 ∨ k = 2 ∨ k = 3 ∨ k = 4 := by omega
      rcases this with rfl | rfl | rfl | rfl | rfl
      · exact q0
      · exact q1
      · exact q2
      · exact q3
      · exact q4
    refine ⟨⟨ES.of (fun a b ha hb => ?_) (fun a b ha ha2 hb => ?_) (fun b hb => ?_), (eu 12 0 (by omega)).trans c1, by omega, (eu 12 1 (by omega)).trans c3, c4, (eu 12 4 (by omega)).trans c5, by omega, hL.1, hL.2.eq (yo 7 (by decide)) (yo 8 (by decide)), fun j hj => ?_⟩, ⟨⟨c6, a2.1.2⟩, a2.2.1, a2.2.2.1, (so 14 (by decide)).trans a2.2.2.2.1, fun i hi => ⟨(a2.2.2.2.2 i hi).1, (a2.2.2.2.2 i hi).2.eq (yo 7 (by decide)) (yo 8 (by decide))⟩⟩, ⟨fun j hj => ?_, fun q hq => ?_⟩, ⟨fun j hj => ?_, ?_⟩, fun s hs => by rw [yo 11 (by decide), yo 12 (by decide), yo 13 (by decide)]; exact a5 s hs, a6, ⟨a7.1, (so 11 (by decide)).trans a7.2.1, a7.2.2.1, by rw [yo 6 (by decide)]; exact a7.2.2.2⟩, a8.trans (so 16 (by decide)).symm, Or.inr ?_, (yo 15 (by decide)).trans b1⟩
    · rw [eu a b (by omega)]
      have : a = 0 ∨ a = 1 ∨ a = 2 ∨ a = 3 ∨ a = 4 ∨ a = 5 ∨ a = 6 := by omega
      rcases this with rfl | rfl | rfl | rfl | rfl | rfl | rfl
      · show Y' 0 b = _
        rw [yo 0 (by decide), (c9 b hb).1]; exact a1.1.lo (a := 0) (b := b) (by decide) (by omega)
      · show Y' 1 b = _
        rw [yo 1 (by decide), (c9 b hb).2]; exact a1.1.lo (a := 1) (b := b) (by decide) (by omega)
      · exact r2 0 (by decide) b hb
      · exact r2 1 (by decide) b hb
      · exact r2 2 (by decide) b hb
      · exact r2 3 (by decide) b hb
      · exact r2 4 (by decide) b hb
    · rw [eu a b (by omega)]
      have q := y3 b hb
      have q2 := d2 b hb
      have : a = 9 ∨ a = 10 ∨ a = 11 := by omega
      rcases this with rfl | rfl | rfl
      · exact q.1.trans q2.1
      · exact q.2.1.trans q2.2.1
      · exact q.2.2.trans q2.2.2
    · rw [eu 12 b (by omega)]
      have : b = 0 ∨ b = 1 ∨ b = 2 ∨ b = 3 ∨ b = 4 := by omega
      rcases this with rfl | rfl | rfl | rfl | rfl
      · exact s0.trans d3
      · exact s5.trans d4
      · exact s8.trans d5
      · exact s9.trans d6
      · exact s15.trans d7
    · rw [eu _ _ (by omega)]; exact c7.bay j hj
    · rw [eu _ _ (by omega), eu _ _ (by omega), eu _ _ (by omega)]; exact c7.1 j hj
    · rw [eu _ _ (by omega)]; exact c7.2 q hq
    · rw [eu _ _ (by omega)]; exact c8.1 j hj
    · rw [eu _ _ (by omega)]; exact c8.2
    · rw [e2]
      refine ⟨nk, pk_, tk, c1, Nat.le_refl _, c3, c4, c5, c6, c7, c8, fun j hj => ?_, ?_⟩
      · rw [eu _ _ (by omega), eu _ _ (by omega)]; exact ⟨rfl, rfl⟩
      · rw [yo 9 (by decide), yo 10 (by decide)]
        exact ⟨d1, d2, d3, d4, d5, d6, d7⟩
end
