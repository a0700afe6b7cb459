/-! TEXTS: the model holds signs (wip/whole/gen78.py) -/
def HR (f : Nat → Int32) : List Int32 → Prop
  | [] => True
  | a :: r => f r.length = a ∧ HR f r
theorem HR.u {f : Nat → Int32} {n : Nat} {v : Int32} {H : List Int32} (h : HR f H) (hn : H.length ≤ n) : HR (va_up f n v) H := by
  induction H with
  | nil => trivial
  | cons a r ih =>
    rw [List.length_cons] at hn
    exact ⟨(va_oth _ _ (by omega)).trans h.1, ih h.2 (by omega)⟩
def cnt : List Int32 → Nat
  | [] => 0
  | a :: r => cnt r + (if a = 0 ∨ a = 13 ∨ a = 19 then 1 else 0)
theorem cnt_le : ∀ H : List Int32, cnt H ≤ H.length
  | [] => Nat.le_refl _
  | a :: r => by
    have h := cnt_le r
    rw [cnt, List.length_cons]
    split <;> omega
def unw (L : Int32) : List Int32 → List Int32 × List Int32
  | [] => ([], [])
  | a :: r => if L ≤ rnk a then (a :: (unw L r).1, (unw L r).2) else ([], a :: r)
theorem unw_len (L : Int32) : ∀ H : List Int32, (unw L H).1.length + (unw L H).2.length = H.length
  | [] => rfl
  | a :: r => by
    have h := unw_len L r
    rw [unw]
    by_cases q : L ≤ rnk a
    · rw [if_pos q]
      show (a :: (unw L r).1).length + (unw L r).2.length = (a :: r).length
      rw [List.length_cons, List.length_cons]
      omega
    · rw [if_neg q]
      show ([] : List Int32).length + (a :: r).length = (a :: r).length
      rw [List.length_nil]
      omega
def RT (L : Int32) : List Int32 → Prop
  | [] => True
  | a :: _ => rnk a < L
theorem unw_rt {L : Int32} {H : List Int32} (h : RT L H) : unw L H = ([], H) := by
  cases H with
  | nil => rfl
  | cons a r => rw [unw, if_neg (Int32.not_le.mpr h)]
theorem unw_app {L : Int32} {h H : List Int32} (ha : ∀ a, a ∈ h → L ≤ rnk a) (hH : RT L H) : unw L (h ++ H) = (h, H) := by
  induction h with
  | nil => exact unw_rt hH
  | cons a r ih => rw [List.cons_append, unw, if_pos (ha a (List.mem_cons_self ..)), ih (fun b hb => ha b (List.mem_cons_of_mem _ hb))]
theorem RT.up {L M : Int32} {H : List Int32} (hLM : L ≤ M) (h : RT L H) : RT M H := by
  cases H with
  | nil => trivial
  | cons a r => exact Int32.lt_of_lt_of_le h hLM
/-- what stays while a text is read -/
def FE (tc : Nat) (W : List Nat) (Y : tR) (S : Nat → Int32) (Y' : tR) (S' : Nat → Int32) : Prop := (∀ i, ¬ (i = 7 ∨ i = 16) → Y' i = Y i) ∧ (∀ k, k < 200 * tc → Y' 7 k = Y 7 k) ∧ Sw S S' W
theorem FE.refl {tc : Nat} {W : List Nat} {Y : tR} {S : Nat → Int32} : FE tc W Y S Y S := ⟨fun _ _ => rfl, fun _ _ => rfl, Sw.refl⟩
theorem FE.t {tc : Nat} {W : List Nat} {Y Y1 Y2 : tR} {S S1 S2 : Nat → Int32} (h : FE tc W Y S Y1 S1) (k : FE tc W Y1 S1 Y2 S2) : FE tc W Y S Y2 S2 := ⟨fun i hi => (k.1 i hi).trans (h.1 i hi), fun i hi => (k.2.1 i hi).trans (h.2.1 i hi), h.2.2.t k.2.2⟩
theorem FE.up {tc : Nat} {W V : List Nat} {Y Y1 : tR} {S S1 : Nat → Int32} (h : FE tc W Y S Y1 S1) (hV : ∀ c, c ∉ V → c ∉ W) : FE tc V Y S Y1 S1 := ⟨h.1, h.2.1, fun c hc => h.2.2 c (hV c hc)⟩
theorem FE.s {tc : Nat} {W : List Nat} {Y : tR} {S S1 : Nat → Int32} (h : Sw S S1 W) : FE tc W Y S Y S1 := ⟨fun _ _ => rfl, fun _ _ => rfl, h⟩
theorem u2_rw {Y : tR} {a k : Nat} {v : Int32} : u2 Y a k v a = va_up (Y a) k v := by
  unfold u2
  rw [va_same]
theorem FE.y7 {tc n : Nat} {W : List Nat} {Y : tR} {S : Nat → Int32} {v : Int32} : FE tc W Y S (u2 Y 7 (200 * tc + n) v) S := ⟨fun i hi => u2_row (fun q => hi (Or.inl q)), fun k hk => by rw [u2_rw, va_oth _ _ (by omega)], Sw.refl⟩
theorem FE.y16 {tc n : Nat} {W : List Nat} {Y : tR} {S : Nat → Int32} {v : Int32} : FE tc W Y S (u2 Y 16 n v) S := ⟨fun i hi => u2_row (fun q => hi (Or.inr q)), fun k hk => by rw [u2_row (by decide)], Sw.refl⟩
def OC (R : Nat → Int32) (b : Nat) (O : List Int32) : Prop := ∀ k (h : k < O.length), R (b + k) = O[k]
theorem OC.app {R : Nat → Int32} {b : Nat} {O : List Int32} {a : Int32} (h : OC R b O) : OC (va_up R (b + O.length) a) b (O ++ [a]) := by
  intro k hk
  by_cases q : k < O.length
  · rw [va_oth _ _ (by omega), List.getElem_append_left q]
    exact h k q
  · have e : k = O.length := by
      rw [List.length_append, List.length_singleton] at hk
      omega
    subst e
    rw [va_same, List.getElem_append_right (Nat.le_refl _)]
    simp
/-- what is held, and what has come -/
def SH (tc : Nat) (H O : List Int32) (Y : tR) (S : Nat → Int32) : Prop := S 29 = nI H.length ∧ HR (Y 16) H ∧ S 30 = nI (cnt H) ∧ S 31 = nI O.length ∧ OC (Y 7) (200 * tc) O
theorem SH.fr {tc : Nat} {H O : List Int32} {Y : tR} {S S1 : Nat → Int32} (h : SH tc H O Y S) (hs : Sw S S1 [23, 24, 25, 26]) : SH tc H O Y S1 := ⟨(hs 29 (by decide)).trans h.1, h.2.1, (hs 30 (by decide)).trans h.2.2.1, (hs 31 (by decide)).trans h.2.2.2.1, h.2.2.2.2⟩
def sof (v : Int32) : Int32 := if v = 4 then 11 else if v = 5 then 12 else if v = 60 then 14 else if v = 61 then 15 else if v = 43 then 16 else if v = 45 then 17 else if v = 42 then 18 else -1
def isg (t : Int32) : Bool := decide (t = 3 ∨ t = 4 ∨ t = 60 ∨ t = 61 ∨ t = 43 ∨ t = 45 ∨ t = 42)
def TL : List Int32 := ([-1, -2, 0, 1, 2, 3, 4, 5, 6, 7, 8, 9, 10, 11, 12, 40, 41, 59, 43, 45, 42, 60, 61] : List Int32)
theorem tok_r {f : Nat → Int32} {sz s : Nat} (hs : s ≤ sz) (hby : ∀ k, k < sz → 0 ≤ f k ∧ f k ≤ 255) : tok f sz s ∈ TL := by
  unfold tok
  by_cases e : s = sz
  · rw [if_pos e]
    decide
  · rw [if_neg e]
    cases hl : plt (f s) with
    | true =>
      rw [cond_true]
      rcases wsp_r (isw f s (spn plt f (sz - s) s)) 61 0 (-2) 0 0 with e1 | ⟨j, _, h2, e1⟩
      · rw [e1]
        decide
      · rw [e1]
        rw [spc_12] at h2
        have key : ∀ j, j < 12 → nI j ∈ TL := by decide
        exact key j (by omega)
    | false =>
      rw [cond_false]
      cases hg : pdg (f s) with
      | true =>
        rw [cond_true]
        by_cases h4 : 4 < spn pdg f (sz - s) s - s
        · rw [if_pos h4]
          decide
        · rw [if_neg h4]
          decide
      | false =>
        rw [cond_false]
        cases hx : sgn (f s) with
        | true =>
          rw [cond_true]
          have := of_decide_eq_true ((sgn_b (hby s (by omega))).symm.trans hx)
          rcases this with q | q | q | q | q | q | q | q <;> rw [q] <;> decide
        | false =>
          rw [cond_false]
          decide
theorem mtk_i : ∀ t, t ∈ TL → (mtk t = 1 ↔ t = 12) ∧ (mtk t = 2 ↔ 6 ≤ t ∧ t ≤ 11) ∧ (mtk t = 6 ↔ t = 5) ∧ (mtk t = 45 ↔ t = 45) ∧ (mtk t = 40 ↔ t = 40) ∧ (mtk t = 59 ↔ t = 59) ∧ (mtk t = 41 ↔ t = 41) ∧ (mtk t = 3 ↔ 0 ≤ t ∧ t ≤ 2) ∧ (mtk t = 0 ↔ t = -1) ∧ sof (mtk t) = (if isg t = true then 10 - cst t else -1) := by decide +kernel
theorem rnk_0 {a : Int32} (h : rnk a < 1) : a = 0 := by
  unfold rnk at h
  by_cases h0 : a = 0
  · exact h0
  · rw [if_neg h0] at h
    refine absurd h ?_
    repeat' split
    all_goals decide
section
variable {d : Nat} {g : mG} {N : Nat} {P : Nat → mC} {Y : tR} {S : Nat → Int32} {tc : Nat}
theorem x_147 {n : Nat} {v : Int32} (htc : S 14 = nI tc) (ht : tc < 6) (hou : S 31 = nI n) (hn : n < 200) : Ex d 147 [.ref 92, .int v] (N, H3 g P (mm Y S)) none (N, H3 g P (mm (u2 Y 7 (200 * tc + n) v) (va_up S 31 (nI (n + 1))))) := by
  refine Ex.of ?_
  show Wp _ 147 0 [.ref 92, .int v] [] _ _
  refine W_aload_n d_147_0 rfl (by decide) ?_
  refine W_getf d_147_1 o_147 k_7_35 rfl rfl ?_
  refine W_sipush d_147_4 (v := 200) (by decide) ?_
  refine W_aload_n d_147_7 rfl (by decide) ?_
  refine W_getf d_147_8 o_147 k_7_106 rfl rfl ?_
  rw [htc]
  refine W_imul d_147_11 ?_
  rw [show ((200 * nI tc : Int32)) = nI (200 * tc) from pk_mul 200 tc]
  refine W_aload_n d_147_12 rfl (by decide) ?_
  refine W_getf d_147_13 o_147 k_7_132 rfl rfl ?_
  rw [hou]
  refine W_iadd d_147_16 ?_
  rw [show ((nI (200 * tc) + nI n : Int32)) = nI (200 * tc + n) from nI_add (200 * tc) n]
  refine W_iload_n d_147_17 rfl ?_
  refine W_mst (a := 7) d_147_18 rfl (by decide) (n := 1200) rfl (vp_in_nI (by omega) (by decide)) (nI_clamp (by omega)) ?_
  refine W_aload_n d_147_19 rfl (by decide) ?_
  refine W_dup d_147_20 rfl ?_
  refine W_getf d_147_21 o_147 k_7_132 rfl rfl ?_
  rw [hou]
  refine W_iconst d_147_24 (v := 1) (by decide) ?_
  refine W_iadd d_147_25 ?_
  rw [show ((nI n + 1 : Int32)) = nI (n + 1) from nI_add n 1]
  refine W_putf d_147_26 o_147 k_7_132 rfl (Nat.le_of_ble_eq_true rfl) rfl mm_s31 ?_
  refine W_ret d_147_29 rt_147 ?_
  exact ⟨rfl, rfl⟩
theorem x_149 {n : Nat} {v : Int32} (hhm : S 29 = nI n) (hn : n < 200) : Ex d 149 [.ref 92, .int v] (N, H3 g P (mm Y S)) none (N, H3 g P (mm (u2 Y 16 n v) (va_up S 29 (nI (n + 1))))) := by
  refine Ex.of ?_
  show Wp _ 149 0 [.ref 92, .int v] [] _ _
  refine W_aload_n d_149_0 rfl (by decide) ?_
  refine W_getf d_149_1 o_149 k_7_62 rfl rfl ?_
  refine W_aload_n d_149_4 rfl (by decide) ?_
  refine W_getf d_149_5 o_149 k_7_135 rfl rfl ?_
  rw [hhm]
  refine W_iload_n d_149_8 rfl ?_
  refine W_mst (a := 16) d_149_9 rfl (by decide) (n := 200) rfl (vp_in_nI (by omega) (by decide)) (nI_clamp (by omega)) ?_
  refine W_aload_n d_149_10 rfl (by decide) ?_
  refine W_dup d_149_11 rfl ?_
  refine W_getf d_149_12 o_149 k_7_135 rfl rfl ?_
  rw [hhm]
  refine W_iconst d_149_15 (v := 1) (by decide) ?_
  refine W_iadd d_149_16 ?_
  rw [show ((nI n + 1 : Int32)) = nI (n + 1) from nI_add n 1]
  refine W_putf d_149_17 o_149 k_7_135 rfl (Nat.le_of_ble_eq_true rfl) rfl mm_s29 ?_
  refine W_ret d_149_20 rt_149 ?_
  exact ⟨rfl, rfl⟩
theorem x_150f {v : Int32} (hop : S 30 = nI 5) : Ex d 150 [.ref 92, .int v] (N, H3 g P (mm Y S)) (some (.int 0)) (N, H3 g P (mm Y S)) := by
  refine Ex.of ?_
  show Wp _ 150 0 [.ref 92, .int v] [] _ _
  refine W_aload_n d_150_0 rfl (by decide) ?_
  refine W_getf d_150_1 o_150 k_7_142 rfl rfl ?_
  rw [hop]
  refine W_iconst d_150_4 (v := 5) (by decide) ?_
  refine W_icmp_ne (tgt := 10) d_150_5 (by decide) (fun h5 => absurd rfl h5) (fun h5 => ?_)
  refine W_iconst d_150_8 (v := 0) (by decide) ?_
  refine W_iret d_150_9 rt_150 rfl ?_
  exact ⟨rfl, rfl⟩
theorem x_150 {n w : Nat} {v : Int32} (hd : 1 ≤ d) (hop : S 30 = nI w) (hq : w < 5) (hhm : S 29 = nI n) (hn : n < 200) : Ex d 150 [.ref 92, .int v] (N, H3 g P (mm Y S)) (some (.int 1)) (N, H3 g P (mm (u2 Y 16 n v) (va_up (va_up S 30 (nI (w + 1))) 29 (nI (n + 1))))) := by
  refine Ex.of ?_
  show Wp _ 150 0 [.ref 92, .int v] [] _ _
  refine W_aload_n d_150_0 rfl (by decide) ?_
  refine W_getf d_150_1 o_150 k_7_142 rfl rfl ?_
  rw [hop]
  refine W_iconst d_150_4 (v := 5) (by decide) ?_
  refine W_icmp_ne (tgt := 10) d_150_5 (by decide) (fun h5 => ?_) (fun h5 => absurd h5 (fun q => absurd ((nI_eq (a := w) (b := 5) (by omega) (by omega)).mp q) (show ¬ w = 5 by omega)))
  refine W_aload_n d_150_10 rfl (by decide) ?_
  refine W_dup d_150_11 rfl ?_
  refine W_getf d_150_12 o_150 k_7_142 rfl rfl ?_
  rw [hop]
  refine W_iconst d_150_15 (v := 1) (by decide) ?_
  refine W_iadd d_150_16 ?_
  rw [show ((nI w + 1 : Int32)) = nI (w + 1) from nI_add w 1]
  refine W_putf d_150_17 o_150 k_7_142 rfl (Nat.le_of_ble_eq_true rfl) rfl mm_s30 ?_
  refine W_aload_n d_150_20 rfl (by decide) ?_
  refine W_iload_n d_150_21 rfl ?_
  refine W_callV d_150_22 o_150 (Or.inl k_7_149) (by omega) (x_149 ((va_oth _ _ (by decide)).trans hhm) hn) rfl (mrecv_of rfl o_149.symm) rfl (Nat.le_of_ble_eq_true rfl) ?_
  refine W_iconst d_150_25 (v := 1) (by decide) ?_
  refine W_iret d_150_26 rt_150 rfl ?_
  exact ⟨rfl, rfl⟩
theorem x_152 : Ex d 152 [.ref 92] (N, H3 g P (mm Y S)) (some (.int (sof (S 25)))) (N, H3 g P (mm Y S)) := by
  refine Ex.of ?_
  show Wp _ 152 0 [.ref 92] [] _ _
  refine W_aload_n d_152_0 rfl (by decide) ?_
  refine W_getf d_152_1 o_152 k_7_122 rfl rfl ?_
  refine W_iconst d_152_4 (v := 4) (by decide) ?_
  refine W_icmp_ne (tgt := 13) d_152_5 (by decide) (fun h5 => ?_) (fun h5 => ?_)
  · refine W_aload_n d_152_13 rfl (by decide) ?_
    refine W_getf d_152_14 o_152 k_7_122 rfl rfl ?_
    refine W_iconst d_152_17 (v := 5) (by decide) ?_
    refine W_icmp_ne (tgt := 26) d_152_18 (by decide) (fun h18 => ?_) (fun h18 => ?_)
    · refine W_aload_n d_152_26 rfl (by decide) ?_
      refine W_getf d_152_27 o_152 k_7_122 rfl rfl ?_
      refine W_bipush d_152_30 (v := 60) (by decide) ?_
      refine W_icmp_ne (tgt := 40) d_152_32 (by decide) (fun h32 => ?_) (fun h32 => ?_)
      · refine W_aload_n d_152_40 rfl (by decide) ?_
        refine W_getf d_152_41 o_152 k_7_122 rfl rfl ?_
        refine W_bipush d_152_44 (v := 61) (by decide) ?_
        refine W_icmp_ne (tgt := 54) d_152_46 (by decide) (fun h46 => ?_) (fun h46 => ?_)
        · refine W_aload_n d_152_54 rfl (by decide) ?_
          refine W_getf d_152_55 o_152 k_7_122 rfl rfl ?_
          refine W_bipush d_152_58 (v := 43) (by decide) ?_
          refine W_icmp_ne (tgt := 68) d_152_60 (by decide) (fun h60 => ?_) (fun h60 => ?_)
          · refine W_aload_n d_152_68 rfl (by decide) ?_
            refine W_getf d_152_69 o_152 k_7_122 rfl rfl ?_
            refine W_bipush d_152_72 (v := 45) (by decide) ?_
            refine W_icmp_ne (tgt := 82) d_152_74 (by decide) (fun h74 => ?_) (fun h74 => ?_)
            · refine W_aload_n d_152_82 rfl (by decide) ?_
              refine W_getf d_152_83 o_152 k_7_122 rfl rfl ?_
              refine W_bipush d_152_86 (v := 42) (by decide) ?_
              refine W_icmp_ne (tgt := 96) d_152_88 (by decide) (fun h88 => ?_) (fun h88 => ?_)
              · refine W_iconst d_152_96 (v := (-1)) (by decide) ?_
                refine W_iret d_152_97 rt_152 rfl ?_
                exact ⟨congrArg (fun z => some (Value.int z)) (by unfold sof; simp [*]), rfl⟩
              · refine W_bipush d_152_91 (v := 18) (by decide) ?_
                refine W_goto (tgt := 97) d_152_93 (by decide) ?_
                refine W_iret d_152_97 rt_152 rfl ?_
                exact ⟨congrArg (fun z => some (Value.int z)) (by unfold sof; simp [*]), rfl⟩
            · refine W_bipush d_152_77 (v := 17) (by decide) ?_
              refine W_goto (tgt := 97) d_152_79 (by decide) ?_
              refine W_iret d_152_97 rt_152 rfl ?_
              exact ⟨congrArg (fun z => some (Value.int z)) (by unfold sof; simp [*]), rfl⟩
          · refine W_bipush d_152_63 (v := 16) (by decide) ?_
            refine W_goto (tgt := 97) d_152_65 (by decide) ?_
            refine W_iret d_152_97 rt_152 rfl ?_
            exact ⟨congrArg (fun z => some (Value.int z)) (by unfold sof; simp [*]), rfl⟩
        · refine W_bipush d_152_49 (v := 15) (by decide) ?_
          refine W_goto (tgt := 97) d_152_51 (by decide) ?_
          refine W_iret d_152_97 rt_152 rfl ?_
          exact ⟨congrArg (fun z => some (Value.int z)) (by unfold sof; simp [*]), rfl⟩
      · refine W_bipush d_152_35 (v := 14) (by decide) ?_
        refine W_goto (tgt := 97) d_152_37 (by decide) ?_
        refine W_iret d_152_97 rt_152 rfl ?_
        exact ⟨congrArg (fun z => some (Value.int z)) (by unfold sof; simp [*]), rfl⟩
    · refine W_bipush d_152_21 (v := 12) (by decide) ?_
      refine W_goto (tgt := 97) d_152_23 (by decide) ?_
      refine W_iret d_152_97 rt_152 rfl ?_
      exact ⟨congrArg (fun z => some (Value.int z)) (by unfold sof; simp [*]), rfl⟩
  · refine W_bipush d_152_8 (v := 11) (by decide) ?_
    refine W_goto (tgt := 97) d_152_10 (by decide) ?_
    refine W_iret d_152_97 rt_152 rfl ?_
    exact ⟨congrArg (fun z => some (Value.int z)) (by unfold sof; simp [*]), rfl⟩
theorem unw_ex {L : Int32} (hd : 1 ≤ d) (h1L : 1 ≤ L) (hv : True) (ht : tc < 6) : ∀ (H O : List Int32) (Y : tR) (S : Nat → Int32), SH tc H O Y S → S 14 = nI tc → O.length + H.length < 200 → ∀ x : Value, Wp d 148 0 [.ref 92, .int L, x] [] (N, H3 g P (mm Y S)) (fun v M => v = none ∧ ∃ Y' S', M = (N, H3 g P (mm Y' S')) ∧ FE tc [29, 30, 31] Y S Y' S' ∧ SH tc (unw L H).2 (O ++ (unw L H).1) Y' S')
  | [], O, Y, S, hH, htc, hb, x => by
    refine W_aload_n d_148_0 rfl (by decide) ?_
    refine W_getf d_148_1 o_148 k_7_135 rfl rfl ?_
    rw [hH.1]
    show Wp _ _ _ _ (.int 0 :: _) _ _
    refine W_if_le (tgt := 79) d_148_4 (by decide) (fun _ => ?_) (fun h4 => absurd h4 (by decide))
    refine W_ret d_148_79 rt_148 ?_
    exact ⟨rfl, Y, S, rfl, FE.refl, (show SH tc [] (O ++ []) Y S by rw [List.append_nil]; exact hH)⟩
  | a :: r, O, Y, S, hH, htc, hb, x => by
    have hhm : S 29 = nI (r.length + 1) := hH.1
    have hop : S 30 = nI (cnt (a :: r)) := hH.2.2.1
    rw [List.length_cons] at hb
    by_cases hle : L ≤ rnk a
    · have h0 : ¬ a = 0 := fun q => absurd (Int32.le_trans h1L hle) (by rw [q]; decide)
      refine W_aload_n d_148_0 rfl (by decide) ?_
      refine W_getf d_148_1 o_148 k_7_135 rfl rfl ?_
      rw [hhm]
      refine W_if_le (tgt := 79) d_148_4 (by decide) (fun h4 => absurd h4 (nI_ge (a := 0) (b := r.length + 1) (by omega) (by omega))) (fun h4 => ?_)
      refine W_aload_n d_148_7 rfl (by decide) ?_
      refine W_getf d_148_8 o_148 k_7_62 rfl rfl ?_
      refine W_aload_n d_148_11 rfl (by decide) ?_
      refine W_getf d_148_12 o_148 k_7_135 rfl rfl ?_
      rw [hhm]
      refine W_iconst d_148_15 (v := 1) (by decide) ?_
      refine W_isub d_148_16 ?_
      rw [show ((nI (r.length + 1) - 1 : Int32)) = nI ((r.length + 1) - 1) from pk_sub (a := r.length + 1) (b := 1) (by omega)]
      rw [show r.length + 1 - 1 = r.length from rfl]
      refine W_mld (a := 16) d_148_17 rfl (by decide) (n := 200) rfl (vp_in_nI (by omega) (by decide)) ((congrArg _ (nI_clamp (by omega))).trans hH.2.1.1) ?_
      refine W_callS d_148_18 o_148 k_7_138 (by omega) x_146 rfl (Nat.le_of_ble_eq_true rfl) ?_
      refine W_iload_n d_148_21 rfl ?_
      refine W_icmp_lt (tgt := 79) d_148_22 (by decide) (fun h22 => absurd h22 (Int32.not_lt.mpr hle)) (fun h22 => ?_)
      refine W_aload_n d_148_25 rfl (by decide) ?_
      refine W_dup d_148_26 rfl ?_
      refine W_getf d_148_27 o_148 k_7_135 rfl rfl ?_
      rw [hhm]
      refine W_iconst d_148_30 (v := 1) (by decide) ?_
      refine W_isub d_148_31 ?_
      rw [show ((nI (r.length + 1) - 1 : Int32)) = nI ((r.length + 1) - 1) from pk_sub (a := r.length + 1) (b := 1) (by omega)]
      rw [show r.length + 1 - 1 = r.length from rfl]
      refine W_putf d_148_32 o_148 k_7_135 rfl (Nat.le_of_ble_eq_true rfl) rfl mm_s29 ?_
      refine W_aload_n d_148_35 rfl (by decide) ?_
      refine W_getf d_148_36 o_148 k_7_62 rfl rfl ?_
      refine W_aload_n d_148_39 rfl (by decide) ?_
      refine W_getf d_148_40 o_148 k_7_135 rfl rfl ?_
      rw [va_same]
      refine W_mld (a := 16) d_148_43 rfl (by decide) (n := 200) rfl (vp_in_nI (by omega) (by decide)) ((congrArg _ (nI_clamp (by omega))).trans hH.2.1.1) ?_
      refine W_istore_n d_148_44 rfl ?_
      refine W_aload_n d_148_45 rfl (by decide) ?_
      refine W_dup d_148_46 rfl ?_
      refine W_getf d_148_47 o_148 k_7_142 rfl rfl ?_
      rw [va_oth _ _ (by decide), hop]
      refine W_iload_n d_148_50 rfl ?_
      refine W_bipush d_148_51 (v := 13) (by decide) ?_
      refine W_icmp_eq (tgt := 62) d_148_53 (by decide) (fun h53 => ?_) (fun h53 => ?_)
      · refine W_iconst d_148_62 (v := 1) (by decide) ?_
        refine W_goto (tgt := 67) d_148_63 (by decide) ?_
        refine W_isub d_148_67 ?_
        refine W_putf d_148_68 o_148 k_7_142 rfl (Nat.le_of_ble_eq_true rfl) rfl mm_s30 ?_
        refine W_aload_n d_148_71 rfl (by decide) ?_
        refine W_iload_n d_148_72 rfl ?_
        refine W_callV d_148_73 o_148 (Or.inl k_7_145) (by omega) (x_147 (n := O.length) ((va_oth _ _ (by decide)).trans ((va_oth _ _ (by decide)).trans htc)) ht ((va_oth _ _ (by decide)).trans ((va_oth _ _ (by decide)).trans hH.2.2.2.1)) (by omega)) rfl (mrecv_of rfl o_147.symm) rfl (Nat.le_of_ble_eq_true rfl) ?_
        refine W_goto (tgt := 0) d_148_76 (by decide) ?_
        have ec : nI (cnt (a :: r)) - 1 = nI (cnt r) := by
          rw [cnt, if_pos (Or.inr (Or.inl h53))]
          exact nI_pred _
        rw [ec]
        have hf : FE tc [29, 30, 31] Y S (u2 Y 7 (200 * tc + O.length) a) (va_up (va_up (va_up S 29 (nI r.length)) 30 (nI (cnt r))) 31 (nI (O.length + 1))) := FE.y7.t (FE.s ((Sw.u (by decide)).t ((Sw.u (by decide)).t (Sw.u (by decide)))))
        have hs : SH tc r (O ++ [a]) (u2 Y 7 (200 * tc + O.length) a) (va_up (va_up (va_up S 29 (nI r.length)) 30 (nI (cnt r))) 31 (nI (O.length + 1))) := by
          refine ⟨?_, ?_, ?_, ?_, ?_⟩
          · rw [va_oth _ _ (by decide), va_oth _ _ (by decide), va_same]
          · rw [u2_row (by decide)]
            exact hH.2.1.2
          · rw [va_oth _ _ (by decide), va_same]
          · rw [va_same, List.length_append, List.length_singleton]
          · rw [u2_rw]
            exact hH.2.2.2.2.app
        refine Wp.imp (unw_ex hd h1L hv ht r (O ++ [a]) _ _ hs ((hf.2.2 14 (by decide)).trans htc) (by rw [List.length_append, List.length_singleton]; omega) (.int a)) ?_
        rintro v M ⟨rfl, Y2, S2, rfl, f2, s2⟩
        rw [unw, if_pos hle]
        refine ⟨rfl, Y2, S2, rfl, hf.t f2, ?_⟩
        show SH tc (unw L r).2 (O ++ a :: (unw L r).1) Y2 S2
        rw [← app_cons]
        exact s2
      · refine W_iload_n d_148_56 rfl ?_
        refine W_bipush d_148_57 (v := 19) (by decide) ?_
        refine W_icmp_ne (tgt := 66) d_148_59 (by decide) (fun h59 => ?_) (fun h59 => ?_)
        · refine W_iconst d_148_66 (v := 0) (by decide) ?_
          refine W_isub d_148_67 ?_
          refine W_putf d_148_68 o_148 k_7_142 rfl (Nat.le_of_ble_eq_true rfl) rfl mm_s30 ?_
          refine W_aload_n d_148_71 rfl (by decide) ?_
          refine W_iload_n d_148_72 rfl ?_
          refine W_callV d_148_73 o_148 (Or.inl k_7_145) (by omega) (x_147 (n := O.length) ((va_oth _ _ (by decide)).trans ((va_oth _ _ (by decide)).trans htc)) ht ((va_oth _ _ (by decide)).trans ((va_oth _ _ (by decide)).trans hH.2.2.2.1)) (by omega)) rfl (mrecv_of rfl o_147.symm) rfl (Nat.le_of_ble_eq_true rfl) ?_
          refine W_goto (tgt := 0) d_148_76 (by decide) ?_
          have ec : nI (cnt (a :: r)) - 0 = nI (cnt r) := by
            rw [cnt, if_neg (fun q => q.elim h0 (fun q => q.elim h53 h59))]
            exact Int32.sub_zero _
          rw [ec]
          have hf : FE tc [29, 30, 31] Y S (u2 Y 7 (200 * tc + O.length) a) (va_up (va_up (va_up S 29 (nI r.length)) 30 (nI (cnt r))) 31 (nI (O.length + 1))) := FE.y7.t (FE.s ((Sw.u (by decide)).t ((Sw.u (by decide)).t (Sw.u (by decide)))))
          have hs : SH tc r (O ++ [a]) (u2 Y 7 (200 * tc + O.length) a) (va_up (va_up (va_up S 29 (nI r.length)) 30 (nI (cnt r))) 31 (nI (O.length + 1))) := by
            refine ⟨?_, ?_, ?_, ?_, ?_⟩
            · rw [va_oth _ _ (by decide), va_oth _ _ (by decide), va_same]
            · rw [u2_row (by decide)]
              exact hH.2.1.2
            · rw [va_oth _ _ (by decide), va_same]
            · rw [va_same, List.length_append, List.length_singleton]
            · rw [u2_rw]
              exact hH.2.2.2.2.app
          refine Wp.imp (unw_ex hd h1L hv ht r (O ++ [a]) _ _ hs ((hf.2.2 14 (by decide)).trans htc) (by rw [List.length_append, List.length_singleton]; omega) (.int a)) ?_
          rintro v M ⟨rfl, Y2, S2, rfl, f2, s2⟩
          rw [unw, if_pos hle]
          refine ⟨rfl, Y2, S2, rfl, hf.t f2, ?_⟩
          show SH tc (unw L r).2 (O ++ a :: (unw L r).1) Y2 S2
          rw [← app_cons]
          exact s2
        · refine W_iconst d_148_62 (v := 1) (by decide) ?_
          refine W_goto (tgt := 67) d_148_63 (by decide) ?_
          refine W_isub d_148_67 ?_
          refine W_putf d_148_68 o_148 k_7_142 rfl (Nat.le_of_ble_eq_true rfl) rfl mm_s30 ?_
          refine W_aload_n d_148_71 rfl (by decide) ?_
          refine W_iload_n d_148_72 rfl ?_
          refine W_callV d_148_73 o_148 (Or.inl k_7_145) (by omega) (x_147 (n := O.length) ((va_oth _ _ (by decide)).trans ((va_oth _ _ (by decide)).trans htc)) ht ((va_oth _ _ (by decide)).trans ((va_oth _ _ (by decide)).trans hH.2.2.2.1)) (by omega)) rfl (mrecv_of rfl o_147.symm) rfl (Nat.le_of_ble_eq_true rfl) ?_
          refine W_goto (tgt := 0) d_148_76 (by decide) ?_
          have ec : nI (cnt (a :: r)) - 1 = nI (cnt r) := by
            rw [cnt, if_pos (Or.inr (Or.inr h59))]
            exact nI_pred _
          rw [ec]
          have hf : FE tc [29, 30, 31] Y S (u2 Y 7 (200 * tc + O.length) a) (va_up (va_up (va_up S 29 (nI r.length)) 30 (nI (cnt r))) 31 (nI (O.length + 1))) := FE.y7.t (FE.s ((Sw.u (by decide)).t ((Sw.u (by decide)).t (Sw.u (by decide)))))
          have hs : SH tc r (O ++ [a]) (u2 Y 7 (200 * tc + O.length) a) (va_up (va_up (va_up S 29 (nI r.length)) 30 (nI (cnt r))) 31 (nI (O.length + 1))) := by
            refine ⟨?_, ?_, ?_, ?_, ?_⟩
            · rw [va_oth _ _ (by decide), va_oth _ _ (by decide), va_same]
            · rw [u2_row (by decide)]
              exact hH.2.1.2
            · rw [va_oth _ _ (by decide), va_same]
            · rw [va_same, List.length_append, List.length_singleton]
            · rw [u2_rw]
              exact hH.2.2.2.2.app
          refine Wp.imp (unw_ex hd h1L hv ht r (O ++ [a]) _ _ hs ((hf.2.2 14 (by decide)).trans htc) (by rw [List.length_append, List.length_singleton]; omega) (.int a)) ?_
          rintro v M ⟨rfl, Y2, S2, rfl, f2, s2⟩
          rw [unw, if_pos hle]
          refine ⟨rfl, Y2, S2, rfl, hf.t f2, ?_⟩
          show SH tc (unw L r).2 (O ++ a :: (unw L r).1) Y2 S2
          rw [← app_cons]
          exact s2
    · skip
      refine W_aload_n d_148_0 rfl (by decide) ?_
      refine W_getf d_148_1 o_148 k_7_135 rfl rfl ?_
      rw [hhm]
      refine W_if_le (tgt := 79) d_148_4 (by decide) (fun h4 => absurd h4 (nI_ge (a := 0) (b := r.length + 1) (by omega) (by omega))) (fun h4 => ?_)
      refine W_aload_n d_148_7 rfl (by decide) ?_
      refine W_getf d_148_8 o_148 k_7_62 rfl rfl ?_
      refine W_aload_n d_148_11 rfl (by decide) ?_
      refine W_getf d_148_12 o_148 k_7_135 rfl rfl ?_
      rw [hhm]
      refine W_iconst d_148_15 (v := 1) (by decide) ?_
      refine W_isub d_148_16 ?_
      rw [show ((nI (r.length + 1) - 1 : Int32)) = nI ((r.length + 1) - 1) from pk_sub (a := r.length + 1) (b := 1) (by omega)]
      rw [show r.length + 1 - 1 = r.length from rfl]
      refine W_mld (a := 16) d_148_17 rfl (by decide) (n := 200) rfl (vp_in_nI (by omega) (by decide)) ((congrArg _ (nI_clamp (by omega))).trans hH.2.1.1) ?_
      refine W_callS d_148_18 o_148 k_7_138 (by omega) x_146 rfl (Nat.le_of_ble_eq_true rfl) ?_
      refine W_iload_n d_148_21 rfl ?_
      refine W_icmp_lt (tgt := 79) d_148_22 (by decide) (fun h22 => ?_) (fun h22 => absurd (Int32.not_le.mp hle) h22)
      refine W_ret d_148_79 rt_148 ?_
      exact ⟨rfl, Y, S, rfl, FE.refl, by rw [unw, if_neg hle]; show SH tc (a :: r) (O ++ []) Y S; rw [List.append_nil]; exact hH⟩
theorem x_148 {L : Int32} {H O : List Int32} (hd : 1 ≤ d) (h1L : 1 ≤ L) (ht : tc < 6) (hH : SH tc H O Y S) (htc : S 14 = nI tc) (hb : O.length + H.length < 200) : Wp d 148 0 (ment 148 [.ref 92, .int L]) [] (N, H3 g P (mm Y S)) (fun v M => v = none ∧ ∃ Y' S', M = (N, H3 g P (mm Y' S')) ∧ FE tc [29, 30, 31] Y S Y' S' ∧ SH tc (unw L H).2 (O ++ (unw L H).1) Y' S') := by
  show Wp _ 148 0 [.ref 92, .int L, .null] [] _ _
  exact unw_ex hd h1L trivial ht H O Y S hH htc hb _
theorem x_151 {v L : Int32} {H O : List Int32} (hd : 2 ≤ d) (ht : tc < 6) (hH : SH tc H O Y S) (htc : S 14 = nI tc) (hb : O.length + H.length < 200) (hr4 : ¬ rnk v = 4) (hL : L = rnk v) (h1 : 1 ≤ L) (hs0 : ¬ (v = 0 ∨ v = 13 ∨ v = 19)) : Wp d 151 0 (ment 151 [.ref 92, .int v]) [] (N, H3 g P (mm Y S)) (fun v' M => ∃ Y' S', M = (N, H3 g P (mm Y' S')) ∧ FE tc [29, 30, 31] Y S Y' S' ∧ v' = some (.int 1) ∧ SH tc (v :: (unw L H).2) (O ++ (unw L H).1) Y' S') := by
  subst hL
  show Wp _ 151 0 [.ref 92, .int v] [] _ _
  refine W_aload_n d_151_0 rfl (by decide) ?_
  refine W_iload_n d_151_1 rfl ?_
  refine W_callS d_151_2 o_151 k_7_138 (by omega) x_146 rfl (Nat.le_of_ble_eq_true rfl) ?_
  refine W_iconst d_151_5 (v := 4) (by decide) ?_
  refine W_icmp_ne (tgt := 13) d_151_6 (by decide) (fun h6 => ?_) (fun h6 => absurd h6 hr4)
  refine W_iload_n d_151_13 rfl ?_
  refine W_callS d_151_14 o_151 k_7_138 (by omega) x_146 rfl (Nat.le_of_ble_eq_true rfl) ?_
  refine W_callVQ d_151_17 o_151 (Or.inl k_7_152) (by omega) (x_148 (by omega) h1 ht hH htc hb) rfl (mrecv_of rfl o_148.symm) rfl (Nat.le_of_ble_eq_true rfl) ?_
  rintro _ _ ⟨rfl, Y2, S2, rfl, f2, s2⟩
  have hu := unw_len (rnk v) H
  refine W_iload_n d_151_20 rfl ?_
  refine W_callS d_151_21 o_151 k_7_138 (by omega) x_146 rfl (Nat.le_of_ble_eq_true rfl) ?_
  refine W_iconst d_151_24 (v := 4) (by decide) ?_
  refine W_icmp_ne (tgt := 55) d_151_25 (by decide) (fun h25 => ?_) (fun h25 => absurd h25 hr4)
  refine W_aload_n d_151_55 rfl (by decide) ?_
  refine W_iload_n d_151_56 rfl ?_
  refine W_callV d_151_57 o_151 (Or.inl k_7_149) (by omega) (x_149 s2.1 (by omega)) rfl (mrecv_of rfl o_149.symm) rfl (Nat.le_of_ble_eq_true rfl) ?_
  refine W_iconst d_151_60 (v := 1) (by decide) ?_
  refine W_iret d_151_61 rt_151 rfl ?_
  refine ⟨_, _, rfl, f2.t (FE.y16.t (FE.s (Sw.u (by decide)))), rfl, ?_, ?_, ?_, ?_, ?_⟩
  · rw [va_same, List.length_cons]
  · rw [u2_rw]
    exact ⟨va_same _ _ _, s2.2.1.u (Nat.le_refl _)⟩
  · exact (va_oth _ _ (by decide)).trans (s2.2.2.1.trans (congrArg nI (by rw [cnt, if_neg hs0, Nat.add_zero])))
  · rw [va_oth _ _ (by decide)]
    exact s2.2.2.2.1
  · rw [u2_row (by decide)]
    exact s2.2.2.2.2
theorem x_151e {v : Int32} {H O : List Int32} (hd : 2 ≤ d) (ht : tc < 6) (hH : SH tc H O Y S) (htc : S 14 = nI tc) (hb : O.length + H.length < 200) (hr4 : rnk v = 4) (hs0 : ¬ (v = 0 ∨ v = 13 ∨ v = 19)) (he : (unw 5 H).2 = []) : Wp d 151 0 (ment 151 [.ref 92, .int v]) [] (N, H3 g P (mm Y S)) (fun v' M => ∃ Y' S', M = (N, H3 g P (mm Y' S')) ∧ FE tc [29, 30, 31] Y S Y' S' ∧ v' = some (.int 1) ∧ SH tc (v :: (unw 5 H).2) (O ++ (unw 5 H).1) Y' S') := by
  have h1 : (1 : Int32) ≤ 5 := by decide
  show Wp _ 151 0 [.ref 92, .int v] [] _ _
  refine W_aload_n d_151_0 rfl (by decide) ?_
  refine W_iload_n d_151_1 rfl ?_
  refine W_callS d_151_2 o_151 k_7_138 (by omega) x_146 rfl (Nat.le_of_ble_eq_true rfl) ?_
  refine W_iconst d_151_5 (v := 4) (by decide) ?_
  refine W_icmp_ne (tgt := 13) d_151_6 (by decide) (fun h6 => absurd hr4 h6) (fun h6 => ?_)
  refine W_iconst d_151_9 (v := 5) (by decide) ?_
  refine W_goto (tgt := 17) d_151_10 (by decide) ?_
  refine W_callVQ d_151_17 o_151 (Or.inl k_7_152) (by omega) (x_148 (by omega) h1 ht hH htc hb) rfl (mrecv_of rfl o_148.symm) rfl (Nat.le_of_ble_eq_true rfl) ?_
  rintro _ _ ⟨rfl, Y2, S2, rfl, f2, s2⟩
  have hu := unw_len 5 H
  have hu2 : (unw 5 H).2.length = 0 := congrArg List.length he
  refine W_iload_n d_151_20 rfl ?_
  refine W_callS d_151_21 o_151 k_7_138 (by omega) x_146 rfl (Nat.le_of_ble_eq_true rfl) ?_
  refine W_iconst d_151_24 (v := 4) (by decide) ?_
  refine W_icmp_ne (tgt := 55) d_151_25 (by decide) (fun h25 => absurd hr4 h25) (fun h25 => ?_)
  refine W_aload_n d_151_28 rfl (by decide) ?_
  refine W_getf d_151_29 o_151 k_7_135 rfl rfl ?_
  rw [s2.1, hu2]
  show Wp _ _ _ _ (.int 0 :: _) _ _
  refine W_if_le (tgt := 55) d_151_32 (by decide) (fun _ => ?_) (fun h32 => absurd h32 (by decide))
  refine W_aload_n d_151_55 rfl (by decide) ?_
  refine W_iload_n d_151_56 rfl ?_
  refine W_callV d_151_57 o_151 (Or.inl k_7_149) (by omega) (x_149 s2.1 (by omega)) rfl (mrecv_of rfl o_149.symm) rfl (Nat.le_of_ble_eq_true rfl) ?_
  refine W_iconst d_151_60 (v := 1) (by decide) ?_
  refine W_iret d_151_61 rt_151 rfl ?_
  refine ⟨_, _, rfl, f2.t (FE.y16.t (FE.s (Sw.u (by decide)))), rfl, ?_, ?_, ?_, ?_, ?_⟩
  · rw [va_same, List.length_cons]
  · rw [u2_rw]
    exact ⟨va_same _ _ _, s2.2.1.u (Nat.le_refl _)⟩
  · exact (va_oth _ _ (by decide)).trans (s2.2.2.1.trans (congrArg nI (by rw [cnt, if_neg hs0, Nat.add_zero])))
  · rw [va_oth _ _ (by decide)]
    exact s2.2.2.2.1
  · rw [u2_row (by decide)]
    exact s2.2.2.2.2
theorem x_151n {v : Int32} {H O : List Int32} (hd : 2 ≤ d) (ht : tc < 6) (hH : SH tc H O Y S) (htc : S 14 = nI tc) (hb : O.length + H.length < 200) (hr4 : rnk v = 4) (hs0 : ¬ (v = 0 ∨ v = 13 ∨ v = 19)) {a : Int32} {r : List Int32} (he : (unw 5 H).2 = a :: r) (ha : ¬ rnk a = 4) : Wp d 151 0 (ment 151 [.ref 92, .int v]) [] (N, H3 g P (mm Y S)) (fun v' M => ∃ Y' S', M = (N, H3 g P (mm Y' S')) ∧ FE tc [29, 30, 31] Y S Y' S' ∧ v' = some (.int 1) ∧ SH tc (v :: (unw 5 H).2) (O ++ (unw 5 H).1) Y' S') := by
  have h1 : (1 : Int32) ≤ 5 := by decide
  show Wp _ 151 0 [.ref 92, .int v] [] _ _
  refine W_aload_n d_151_0 rfl (by decide) ?_
  refine W_iload_n d_151_1 rfl ?_
  refine W_callS d_151_2 o_151 k_7_138 (by omega) x_146 rfl (Nat.le_of_ble_eq_true rfl) ?_
  refine W_iconst d_151_5 (v := 4) (by decide) ?_
  refine W_icmp_ne (tgt := 13) d_151_6 (by decide) (fun h6 => absurd hr4 h6) (fun h6 => ?_)
  refine W_iconst d_151_9 (v := 5) (by decide) ?_
  refine W_goto (tgt := 17) d_151_10 (by decide) ?_
  refine W_callVQ d_151_17 o_151 (Or.inl k_7_152) (by omega) (x_148 (by omega) h1 ht hH htc hb) rfl (mrecv_of rfl o_148.symm) rfl (Nat.le_of_ble_eq_true rfl) ?_
  rintro _ _ ⟨rfl, Y2, S2, rfl, f2, s2⟩
  have hu := unw_len 5 H
  have hu2 : (unw 5 H).2.length = r.length + 1 := congrArg List.length he
  have hv2 : Y2 16 r.length = a := by have h := s2.2.1; rw [he] at h; exact h.1
  refine W_iload_n d_151_20 rfl ?_
  refine W_callS d_151_21 o_151 k_7_138 (by omega) x_146 rfl (Nat.le_of_ble_eq_true rfl) ?_
  refine W_iconst d_151_24 (v := 4) (by decide) ?_
  refine W_icmp_ne (tgt := 55) d_151_25 (by decide) (fun h25 => absurd hr4 h25) (fun h25 => ?_)
  refine W_aload_n d_151_28 rfl (by decide) ?_
  refine W_getf d_151_29 o_151 k_7_135 rfl rfl ?_
  rw [s2.1, hu2]
  refine W_if_le (tgt := 55) d_151_32 (by decide) (fun h32 => absurd h32 (nI_ge (a := 0) (b := r.length + 1) (by omega) (by omega))) (fun h32 => ?_)
  refine W_aload_n d_151_35 rfl (by decide) ?_
  refine W_getf d_151_36 o_151 k_7_62 rfl rfl ?_
  refine W_aload_n d_151_39 rfl (by decide) ?_
  refine W_getf d_151_40 o_151 k_7_135 rfl rfl ?_
  rw [s2.1, hu2]
  refine W_iconst d_151_43 (v := 1) (by decide) ?_
  refine W_isub d_151_44 ?_
  rw [show ((nI (r.length + 1) - 1 : Int32)) = nI ((r.length + 1) - 1) from pk_sub (a := r.length + 1) (b := 1) (by omega)]
  rw [show r.length + 1 - 1 = r.length from rfl]
  refine W_mld (a := 16) d_151_45 rfl (by decide) (n := 200) rfl (vp_in_nI (by omega) (by decide)) ((congrArg _ (nI_clamp (by omega))).trans hv2) ?_
  refine W_callS d_151_46 o_151 k_7_138 (by omega) x_146 rfl (Nat.le_of_ble_eq_true rfl) ?_
  refine W_iconst d_151_49 (v := 4) (by decide) ?_
  refine W_icmp_ne (tgt := 55) d_151_50 (by decide) (fun h50 => ?_) (fun h50 => absurd h50 ha)
  refine W_aload_n d_151_55 rfl (by decide) ?_
  refine W_iload_n d_151_56 rfl ?_
  refine W_callV d_151_57 o_151 (Or.inl k_7_149) (by omega) (x_149 s2.1 (by omega)) rfl (mrecv_of rfl o_149.symm) rfl (Nat.le_of_ble_eq_true rfl) ?_
  refine W_iconst d_151_60 (v := 1) (by decide) ?_
  refine W_iret d_151_61 rt_151 rfl ?_
  refine ⟨_, _, rfl, f2.t (FE.y16.t (FE.s (Sw.u (by decide)))), rfl, ?_, ?_, ?_, ?_, ?_⟩
  · rw [va_same, List.length_cons]
  · rw [u2_rw]
    exact ⟨va_same _ _ _, s2.2.1.u (Nat.le_refl _)⟩
  · exact (va_oth _ _ (by decide)).trans (s2.2.2.1.trans (congrArg nI (by rw [cnt, if_neg hs0, Nat.add_zero])))
  · rw [va_oth _ _ (by decide)]
    exact s2.2.2.2.1
  · rw [u2_row (by decide)]
    exact s2.2.2.2.2
theorem x_151f {v : Int32} {H O : List Int32} (hd : 2 ≤ d) (ht : tc < 6) (hH : SH tc H O Y S) (htc : S 14 = nI tc) (hb : O.length + H.length < 200) (hr4 : rnk v = 4) (hs0 : ¬ (v = 0 ∨ v = 13 ∨ v = 19)) {a : Int32} {r : List Int32} (he : (unw 5 H).2 = a :: r) (ha : rnk a = 4) : Wp d 151 0 (ment 151 [.ref 92, .int v]) [] (N, H3 g P (mm Y S)) (fun v' M => ∃ Y' S', M = (N, H3 g P (mm Y' S')) ∧ FE tc [29, 30, 31] Y S Y' S' ∧ v' = some (.int 0) ∧ SH tc (unw 5 H).2 (O ++ (unw 5 H).1) Y' S') := by
  have h1 : (1 : Int32) ≤ 5 := by decide
  show Wp _ 151 0 [.ref 92, .int v] [] _ _
  refine W_aload_n d_151_0 rfl (by decide) ?_
  refine W_iload_n d_151_1 rfl ?_
  refine W_callS d_151_2 o_151 k_7_138 (by omega) x_146 rfl (Nat.le_of_ble_eq_true rfl) ?_
  refine W_iconst d_151_5 (v := 4) (by decide) ?_
  refine W_icmp_ne (tgt := 13) d_151_6 (by decide) (fun h6 => absurd hr4 h6) (fun h6 => ?_)
  refine W_iconst d_151_9 (v := 5) (by decide) ?_
  refine W_goto (tgt := 17) d_151_10 (by decide) ?_
  refine W_callVQ d_151_17 o_151 (Or.inl k_7_152) (by omega) (x_148 (by omega) h1 ht hH htc hb) rfl (mrecv_of rfl o_148.symm) rfl (Nat.le_of_ble_eq_true rfl) ?_
  rintro _ _ ⟨rfl, Y2, S2, rfl, f2, s2⟩
  have hu := unw_len 5 H
  have hu2 : (unw 5 H).2.length = r.length + 1 := congrArg List.length he
  have hv2 : Y2 16 r.length = a := by have h := s2.2.1; rw [he] at h; exact h.1
  refine W_iload_n d_151_20 rfl ?_
  refine W_callS d_151_21 o_151 k_7_138 (by omega) x_146 rfl (Nat.le_of_ble_eq_true rfl) ?_
  refine W_iconst d_151_24 (v := 4) (by decide) ?_
  refine W_icmp_ne (tgt := 55) d_151_25 (by decide) (fun h25 => absurd hr4 h25) (fun h25 => ?_)
  refine W_aload_n d_151_28 rfl (by decide) ?_
  refine W_getf d_151_29 o_151 k_7_135 rfl rfl ?_
  rw [s2.1, hu2]
  refine W_if_le (tgt := 55) d_151_32 (by decide) (fun h32 => absurd h32 (nI_ge (a := 0) (b := r.length + 1) (by omega) (by omega))) (fun h32 => ?_)
  refine W_aload_n d_151_35 rfl (by decide) ?_
  refine W_getf d_151_36 o_151 k_7_62 rfl rfl ?_
  refine W_aload_n d_151_39 rfl (by decide) ?_
  refine W_getf d_151_40 o_151 k_7_135 rfl rfl ?_
  rw [s2.1, hu2]
  refine W_iconst d_151_43 (v := 1) (by decide) ?_
  refine W_isub d_151_44 ?_
  rw [show ((nI (r.length + 1) - 1 : Int32)) = nI ((r.length + 1) - 1) from pk_sub (a := r.length + 1) (b := 1) (by omega)]
  rw [show r.length + 1 - 1 = r.length from rfl]
  refine W_mld (a := 16) d_151_45 rfl (by decide) (n := 200) rfl (vp_in_nI (by omega) (by decide)) ((congrArg _ (nI_clamp (by omega))).trans hv2) ?_
  refine W_callS d_151_46 o_151 k_7_138 (by omega) x_146 rfl (Nat.le_of_ble_eq_true rfl) ?_
  refine W_iconst d_151_49 (v := 4) (by decide) ?_
  refine W_icmp_ne (tgt := 55) d_151_50 (by decide) (fun h50 => absurd ha h50) (fun h50 => ?_)
  refine W_iconst d_151_53 (v := 0) (by decide) ?_
  refine W_iret d_151_54 rt_151 rfl ?_
  exact ⟨Y2, S2, rfl, f2, rfl, s2⟩
end
