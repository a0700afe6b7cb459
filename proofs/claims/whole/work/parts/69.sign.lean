/-! TEXTS: the class reads a sign (wip/whole/gen69.py) -/
section
variable {d : Nat} {g : mG} {N : Nat} {A T K : Nat → tR} {E : Nat → Int32} {l : Int64} {G : tR} {Qm : Nat → mC} {s : Nat}
/-- one of the signs -/
def sgn (v : Int32) : Bool := decide (0 ≤ ixo (fun j => (roS 2).getD j 0) v.toInt8.toInt32 8 0)
theorem i2c_byte {v : Int32} (h : 0 ≤ v ∧ v ≤ 255) : (v.toUInt32 % 65536).toInt32 = v := by
  obtain ⟨c, hc, rfl⟩ := nI_of2 (x := v) (M := 255) (n := 255) rfl (Int32.not_lt.mpr h.1) h.2
  have key : ∀ c : Nat, c < 256 → ((nI c).toUInt32 % 65536).toInt32 = nI c := by decide +kernel
  exact key c (by omega)
theorem x_51 {B : tR} (hd : 5 ≤ d) (hs : s < 160) (hp : B 1 1 = nI s) (hb : 0 ≤ B 0 s ∧ B 0 s ≤ 255) : Wp d 51 0 (ment 51 [.ref 55]) [] (N, H3 g (cc A T K B E l G) Qm) (fun v' M' => v' = none ∧ ∃ B', Rw B B' [1, 3] ∧ B' 1 1 = nI (s + 1) ∧ B' 1 3 = cond (sgn (B 0 s)) (B 0 s) (-2) ∧ M' = (N, H3 g (cc A T K B' E l G) Qm)) := by
  show Wp _ 51 0 [.ref 55] [] _ _
  refine W_aload_n d_51_0 rfl (by decide) ?_
  refine W_ldcS d_51_1 o_51 k_3_109 ?_
  refine W_aload_n d_51_3 rfl (by decide) ?_
  refine W_getf d_51_4 o_51 k_3_9 rfl rfl ?_
  refine W_aload_n d_51_7 rfl (by decide) ?_
  refine W_getf d_51_8 o_51 k_3_28 rfl rfl ?_
  rw [hp]
  refine W_iald d_51_11 rfl (by decide) (vp_in_nI (by omega) (by decide)) (congrArg _ (nI_clamp (by omega))) ?_
  refine W_i2c d_51_12 ?_
  rw [i2c_byte hb]
  refine W_callV d_51_13 o_51 (Or.inr k_3_111) (by omega) (x_3 (q := 1005) (b := 1008) (n := 8) (f := fun j => (roS 2).getD j 0) rfl (by decide) rfl (by decide) (by decide) (by decide) hb (by omega)) rfl (mrecv_of rfl o_3.symm) rfl (Nat.le_of_ble_eq_true rfl) ?_
  refine W_if_ge (tgt := 24) d_51_16 (by decide) (fun h16 => ?_) (fun h16 => ?_)
  · refine W_aload_n d_51_24 rfl (by decide) ?_
    refine W_getf d_51_25 o_51 k_3_9 rfl rfl ?_
    refine W_aload_n d_51_28 rfl (by decide) ?_
    refine W_getf d_51_29 o_51 k_3_28 rfl rfl ?_
    rw [hp]
    refine W_iald d_51_32 rfl (by decide) (vp_in_nI (by omega) (by decide)) (congrArg _ (nI_clamp (by omega))) ?_
    refine W_putf d_51_33 o_51 k_3_41 rfl (Nat.le_of_ble_eq_true rfl) rfl ms_rr4 ?_
    refine W_aload_n d_51_36 rfl (by decide) ?_
    refine W_dup d_51_37 rfl ?_
    refine W_getf d_51_38 o_51 k_3_28 rfl rfl ?_
    rw [show u2 B 1 3 _ 1 1 = nI s from (u2_ot (by decide)).trans hp]
    refine W_iconst d_51_41 (v := 1) (by decide) ?_
    refine W_iadd d_51_42 ?_
    rw [show ((nI s + 1 : Int32)) = nI (s + 1) from nI_add s 1]
    refine W_putf d_51_43 o_51 k_3_28 rfl (Nat.le_of_ble_eq_true rfl) rfl ms_rr2 ?_
    refine W_ret d_51_46 rt_51 ?_
    refine ⟨rfl, _, (Rw.u (B := B) (c := 3) (v := B 0 s) (W := [1, 3]) (by decide)).tr (Rw.u (W := [1, 3]) (by decide)) (fun c hc => ⟨hc, hc⟩), u2_at, ?_, rfl⟩
    rw [u2_ot (by decide), u2_at, show sgn (B 0 s) = true from decide_eq_true h16]
    rfl
  · refine W_bipush d_51_19 (v := (-2)) (by decide) ?_
    refine W_goto (tgt := 33) d_51_21 (by decide) ?_
    refine W_putf d_51_33 o_51 k_3_41 rfl (Nat.le_of_ble_eq_true rfl) rfl ms_rr4 ?_
    refine W_aload_n d_51_36 rfl (by decide) ?_
    refine W_dup d_51_37 rfl ?_
    refine W_getf d_51_38 o_51 k_3_28 rfl rfl ?_
    rw [show u2 B 1 3 _ 1 1 = nI s from (u2_ot (by decide)).trans hp]
    refine W_iconst d_51_41 (v := 1) (by decide) ?_
    refine W_iadd d_51_42 ?_
    rw [show ((nI s + 1 : Int32)) = nI (s + 1) from nI_add s 1]
    refine W_putf d_51_43 o_51 k_3_28 rfl (Nat.le_of_ble_eq_true rfl) rfl ms_rr2 ?_
    refine W_ret d_51_46 rt_51 ?_
    refine ⟨rfl, _, (Rw.u (B := B) (c := 3) (v := -2) (W := [1, 3]) (by decide)).tr (Rw.u (W := [1, 3]) (by decide)) (fun c hc => ⟨hc, hc⟩), u2_at, ?_, rfl⟩
    rw [u2_ot (by decide), u2_at, show sgn (B 0 s) = false from decide_eq_false h16]
    rfl
end
