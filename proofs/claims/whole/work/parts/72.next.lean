/-! TEXTS: the class reads on (wip/whole/gen72.py) -/
def tst (f : Nat → Int32) (sz i : Nat) : Nat := spn pbl f (sz - i) i
def ten (f : Nat → Int32) (sz s : Nat) : Nat := if s = sz then s else cond (plt (f s)) (spn plt f (sz - s) s) (cond (pdg (f s)) (spn pdg f (sz - s) s) (s + 1))
def tok (f : Nat → Int32) (sz s : Nat) : Int32 := if s = sz then -1 else cond (plt (f s)) (wsp (isw f s (spn plt f (sz - s) s)) 61 0 (-2) 0 0) (cond (pdg (f s)) (if 4 < spn pdg f (sz - s) s - s then -2 else 12) (cond (sgn (f s)) (f s) (-2)))
section
variable {d : Nat} {g : mG} {N : Nat} {A T K : Nat → tR} {E : Nat → Int32} {l : Int64} {G : tR} {Qm : Nat → mC} {sz i : Nat}
theorem pdg_plt {v : Int32} (h : plt v = true) : ¬ pdg v = true := by
  intro q
  have h1 := (of_decide_eq_true h).1
  have h2 := (of_decide_eq_true q).2
  exact absurd (Int32.le_trans h1 h2) (by decide)
theorem x_47 {B : tR} (hd : 6 ≤ d) (hz : sz ≤ 160) (h0 : B 1 0 = nI sz) (hp : B 1 1 = nI i) (hi : i ≤ sz) (hby : ∀ k, k < sz → 0 ≤ B 0 k ∧ B 0 k ≤ 255) : Wp d 47 0 (ment 47 [.ref 55]) [] (N, H3 g (cc A T K B E l G) Qm) (fun v' M' => v' = none ∧ ∃ B', Rw B B' [1, 2, 3, 4] ∧ B' 1 1 = nI (ten (B 0) sz (tst (B 0) sz i)) ∧ B' 1 2 = nI (tst (B 0) sz i) ∧ B' 1 3 = tok (B 0) sz (tst (B 0) sz i) ∧ (tst (B 0) sz i < sz → pdg (B 0 (tst (B 0) sz i)) = true → B' 1 4 = num (B 0) (sz - tst (B 0) sz i) (tst (B 0) sz i) 0) ∧ M' = (N, H3 g (cc A T K B' E l G) Qm)) := by
  show Wp _ 47 0 [.ref 55] [] _ _
  refine x_47l (by omega) hz (sz - i) i B h0 hp (by omega) (fun B1 r1 e1 => ?_)
  have hsp := spn_ge pbl (B 0) (sz - i) i
  show Wp _ _ _ _ _ _ (fun v' M' => v' = none ∧ ∃ B', Rw B B' [1, 2, 3, 4] ∧ B' 1 1 = nI (ten (B 0) sz (spn pbl (B 0) (sz - i) i)) ∧ B' 1 2 = nI (spn pbl (B 0) (sz - i) i) ∧ B' 1 3 = tok (B 0) sz (spn pbl (B 0) (sz - i) i) ∧ (spn pbl (B 0) (sz - i) i < sz → pdg (B 0 (spn pbl (B 0) (sz - i) i)) = true → B' 1 4 = num (B 0) (sz - spn pbl (B 0) (sz - i) i) (spn pbl (B 0) (sz - i) i) 0) ∧ M' = (N, H3 g (cc A T K B' E l G) Qm))
  generalize spn pbl (B 0) (sz - i) i = s at hsp e1 ⊢
  refine W_aload_n d_47_39 rfl (by decide) ?_
  refine W_aload_n d_47_40 rfl (by decide) ?_
  refine W_getf d_47_41 o_47 k_3_28 rfl rfl ?_
  rw [e1]
  refine W_putf d_47_44 o_47 k_3_38 rfl (Nat.le_of_ble_eq_true rfl) rfl ms_rr3 ?_
  have hr2 : Rw B (u2 B1 1 2 (nI s)) [1, 2, 3, 4] := r1.tr (Rw.u (W := [2]) (by decide)) (fun c hc => ⟨fun q => hc (by simp at q ⊢; omega), fun q => hc (by simp at q ⊢; omega)⟩)
  have hp2 : u2 B1 1 2 (nI s) 1 1 = nI s := (u2_ot (by decide)).trans e1
  have hs2 : u2 B1 1 2 (nI s) 1 0 = nI sz := (hr2.2 0 (by decide)).trans h0
  have hst : u2 B1 1 2 (nI s) 1 2 = nI s := u2_at
  have h00 : u2 B1 1 2 (nI s) 0 = B 0 := hr2.1
  generalize u2 B1 1 2 (nI s) = B2 at hr2 hp2 hs2 hst h00 ⊢
  refine W_aload_n d_47_47 rfl (by decide) ?_
  refine W_getf d_47_48 o_47 k_3_28 rfl rfl ?_
  rw [hp2]
  refine W_aload_n d_47_51 rfl (by decide) ?_
  refine W_getf d_47_52 o_47 k_3_15 rfl rfl ?_
  rw [hs2]
  refine W_icmp_lt (tgt := 66) d_47_55 (by decide) (fun h55 => ?_) (fun h55 => ?_)
  · have q55 : s < sz := (nI_ltI (a := s) (b := sz) (by omega) (by omega)).mp h55
    refine W_aload_n d_47_66 rfl (by decide) ?_
    refine W_getf d_47_67 o_47 k_3_9 rfl rfl ?_
    refine W_aload_n d_47_70 rfl (by decide) ?_
    refine W_getf d_47_71 o_47 k_3_28 rfl rfl ?_
    rw [hp2]
    refine W_iald d_47_74 rfl (by decide) (vp_in_nI (by omega) (by decide)) ((congrArg _ (nI_clamp (by omega))).trans (congrFun h00 s)) ?_
    refine W_callS d_47_75 o_47 k_3_80 (by omega) x_53 rfl (Nat.le_of_ble_eq_true rfl) ?_
    refine W_if_eq (tgt := 88) d_47_78 (by decide) (fun h78 => ?_) (fun h78 => ?_)
    · refine W_aload_n d_47_88 rfl (by decide) ?_
      refine W_getf d_47_89 o_47 k_3_9 rfl rfl ?_
      refine W_aload_n d_47_92 rfl (by decide) ?_
      refine W_getf d_47_93 o_47 k_3_28 rfl rfl ?_
      rw [hp2]
      refine W_iald d_47_96 rfl (by decide) (vp_in_nI (by omega) (by decide)) ((congrArg _ (nI_clamp (by omega))).trans (congrFun h00 s)) ?_
      refine W_callS d_47_97 o_47 k_3_86 (by omega) x_54 rfl (Nat.le_of_ble_eq_true rfl) ?_
      refine W_if_eq (tgt := 110) d_47_100 (by decide) (fun h100 => ?_) (fun h100 => ?_)
      · refine W_aload_n d_47_110 rfl (by decide) ?_
        refine W_callVQ d_47_111 o_47 (Or.inl k_3_92) (by omega) (x_51 (s := s) (by omega) (by omega) hp2 (by rw [h00]; exact hby s (by omega))) rfl (mrecv_of rfl o_51.symm) rfl (Nat.le_of_ble_eq_true rfl) ?_
        rintro _ _ ⟨rfl, B', x2, x3, x4, rfl⟩
        refine W_ret d_47_114 rt_47 ?_
        have hl : plt (B 0 s) = false := decide_eq_false (bI_f h78)
        have hg : pdg (B 0 s) = false := decide_eq_false (bI_f h100)
        refine ⟨rfl, B', hr2.tr x2 (fun c hc => ⟨hc, fun q => hc (by simp at q ⊢; omega)⟩), ?_, (x2.2 2 (by decide)).trans hst, ?_, fun _ q => absurd q (by rw [hg]; decide), rfl⟩
        · rw [x3, ten, if_neg (show ¬ s = sz by omega), hl, hg]; rfl
        · rw [x4, hr2.1, tok, if_neg (show ¬ s = sz by omega), hl, hg]; rfl
      · refine W_aload_n d_47_103 rfl (by decide) ?_
        refine W_callVQ d_47_104 o_47 (Or.inl k_3_89) (by omega) (x_50 (s := s) (sz := sz) (by omega) hz hs2 hp2 hst (by omega)) rfl (mrecv_of rfl o_50.symm) rfl (Nat.le_of_ble_eq_true rfl) ?_
        rintro _ _ ⟨rfl, B', x2, x3, x4, x5, rfl⟩
        refine W_goto (tgt := 114) d_47_107 (by decide) ?_
        refine W_ret d_47_114 rt_47 ?_
        have hl : plt (B 0 s) = false := decide_eq_false (bI_f h78)
        have hg : pdg (B 0 s) = true := decide_eq_true (bI_t h100)
        refine ⟨rfl, B', hr2.tr x2 (fun c hc => ⟨hc, fun q => hc (by simp at q ⊢; omega)⟩), ?_, (x2.2 2 (by decide)).trans hst, ?_, fun _ _ => ?_, rfl⟩
        · rw [x3, hr2.1, ten, if_neg (show ¬ s = sz by omega), hl, hg]; rfl
        · rw [x4, hr2.1, tok, if_neg (show ¬ s = sz by omega), hl, hg]; rfl
        · rw [x5, hr2.1]
    · refine W_aload_n d_47_81 rfl (by decide) ?_
      refine W_callVQ d_47_82 o_47 (Or.inl k_3_83) (by omega) (x_48 (s := s) (sz := sz) (by omega) hz hs2 hp2 hst (by omega)) rfl (mrecv_of rfl o_48.symm) rfl (Nat.le_of_ble_eq_true rfl) ?_
      rintro _ _ ⟨rfl, B', x2, x3, x4, rfl⟩
      refine W_goto (tgt := 114) d_47_85 (by decide) ?_
      refine W_ret d_47_114 rt_47 ?_
      have hl : plt (B 0 s) = true := decide_eq_true (bI_t h78)
      refine ⟨rfl, B', hr2.tr x2 (fun c hc => ⟨hc, fun q => hc (by simp at q ⊢; omega)⟩), ?_, (x2.2 2 (by decide)).trans hst, ?_, fun _ q => ?_, rfl⟩
      · rw [x3, hr2.1, ten, if_neg (show ¬ s = sz by omega), hl, cond_true]
      · rw [x4, hr2.1, tok, if_neg (show ¬ s = sz by omega), hl, cond_true]
      · exact absurd q (pdg_plt hl)
  · have q55 : ¬ s < sz := mt (nI_ltI (a := s) (b := sz) (by omega) (by omega)).mpr h55
    refine W_aload_n d_47_58 rfl (by decide) ?_
    refine W_iconst d_47_59 (v := (-1)) (by decide) ?_
    refine W_putf d_47_60 o_47 k_3_41 rfl (Nat.le_of_ble_eq_true rfl) rfl ms_rr4 ?_
    refine W_goto (tgt := 114) d_47_63 (by decide) ?_
    refine W_ret d_47_114 rt_47 ?_
    refine ⟨rfl, _, hr2.tr (Rw.u (W := [3]) (by decide)) (fun c hc => ⟨hc, fun q => hc (by simp at q ⊢; omega)⟩), ?_, ?_, ?_, fun q _ => absurd q (by omega), rfl⟩
    · rw [u2_ot (by decide), hp2, ten, if_pos (by omega)]
    · rw [u2_ot (by decide), hst]
    · rw [u2_at, tok, if_pos (by omega)]
end
