/-! CONSTRUCTORS: the model (wip/whole/gen87.py) -/
def pfx (f : Nat → Int32) : Nat → Nat → Int32
  | 0 => fun _ => 0
  | k + 1 => va_up (pfx f k) k (f k)
theorem pfx_v (f : Nat → Int32) : ∀ k i, pfx f k i = if i < k then f i else 0
  | 0, i => (if_neg (Nat.not_lt_zero i)).symm
  | k + 1, i => by
    show va_up (pfx f k) k (f k) i = _
    by_cases q : i = k
    · subst q
      rw [va_same, if_pos (Nat.lt_succ_self _)]
    · rw [va_oth _ _ q, pfx_v f k i]
      by_cases q2 : i < k
      · rw [if_pos q2, if_pos (by omega)]
      · rw [if_neg q2, if_neg (by omega)]
def lwt : Nat → Int32 := fun k => ([102, 97, 108, 108, 115, 32, 50, 32, 59, 32, 116, 97, 107, 101, 115, 32, 51, 32, 43, 32, 119, 97, 108, 108, 32, 59, 32, 108, 105, 102, 116, 115, 32, 49, 32, 59] : List Int32).getD k 0
def neg1 : Nat → Int32 := fun _ => -1
def tm0 : Nat → Int32 := fun k => if k < 36 then lwt k else 0
theorem tm0_by : ∀ k, k < 36 → 0 ≤ tm0 k ∧ tm0 k ≤ 255 := by decide +kernel
theorem tm0_0 : pprt tm0 36 1000 0 (tst tm0 36 0) = (true, 10, [2]) := by decide +kernel
theorem tm0_1 : pprt tm0 36 1000 1 10 = (true, 27, [3, 10001, -6]) := by decide +kernel
theorem tm0_2 : pprt tm0 36 1000 2 27 = (true, 36, [1]) := by decide +kernel
theorem tm0_e : tok tm0 36 36 = -1 := by decide +kernel
theorem wdr_96 : pfx wdr 96 = wdr := by
  funext i
  rw [pfx_v]
  by_cases q : i < 96
  · rw [if_pos q]
  · rw [if_neg q]
    unfold wdr
    rw [List.getD_eq_getElem?_getD, List.getElem?_eq_none (by show 96 ≤ i; omega)]
    rfl
def z_Y : tR := fun a => if a = 11 then pfx neg1 4 else if a = 14 then pfx lwt 36 else if a = 15 then pfx wdr 96 else fun _ => 0
def z_S : Nat → Int32 := fun j => if j = 9 then 10 else 0
def wP (P : Nat → mC) : Nat → mC := fun k => if k < 92 then P k else mm z_Y z_S k
section
variable {d : Nat} {g : mG} {P : Nat → mC} {Q : Option Value → mM → Prop}
theorem HF_117 : HF g 117 (wP P) = (117, H3 g P (mm z_Y z_S)) := by
  refine congrArg (Prod.mk 117) (funext fun k => ?_)
  show (if k < 117 then (if k < 92 then P k else mm z_Y z_S k) else ro g k) = if k < 92 then P k else if k < 117 then mm z_Y z_S k else ro g k
  by_cases q : k < 92
  · rw [if_pos q, if_pos q, if_pos (by omega)]
  · rw [if_neg q, if_neg q]
theorem i_134 (kk : Wp d 134 1002 [.ref 92, .int 0] [] (117, H3 g P (mm z_Y z_S)) Q) : Wp d 134 0 (ment 134 [.ref 92]) [] (HF g 93 (va_up (wP P) 92 (.inr (.inr (7, Dft 7))))) Q := by
  show Wp _ 134 0 [.ref 92, .null] [] _ _
  refine W_aload_n d_134_0 rfl (by decide) ?_
  refine W_obj d_134_1 o_134 k_7_1 (show 92 < 1000 by decide) (by decide) ?_
  refine W_aload_n d_134_4 rfl (by decide) ?_
  refine W_bipush d_134_5 (v := 12) (by decide) ?_
  refine W_newI d_134_7 (by decide) (by decide) (show 93 < 1000 by decide) (HF_push ((va_oth _ _ (by decide)).trans rfl)) ?_
  show Wp _ _ _ _ (.ref 93 :: _) (HF g 94 (va_up (wP P) 92 _)) _
  refine W_putf d_134_9 o_134 k_7_7 ((HF_get (by decide)).trans (va_same _ _ _)) (Nat.le_of_ble_eq_true rfl) (mput_ref (by decide) (by decide +kernel)) ((HF_set (by decide)).trans (congrArg (HF g _) va_va)) ?_
  refine W_aload_n d_134_12 rfl (by decide) ?_
  refine W_bipush d_134_13 (v := 12) (by decide) ?_
  refine W_newI d_134_15 (by decide) (by decide) (show 94 < 1000 by decide) (HF_push ((va_oth _ _ (by decide)).trans rfl)) ?_
  show Wp _ _ _ _ (.ref 94 :: _) (HF g 95 (va_up (wP P) 92 _)) _
  refine W_putf d_134_17 o_134 k_7_13 ((HF_get (by decide)).trans (va_same _ _ _)) (Nat.le_of_ble_eq_true rfl) (mput_ref (by decide) (by decide +kernel)) ((HF_set (by decide)).trans (congrArg (HF g _) va_va)) ?_
  refine W_aload_n d_134_20 rfl (by decide) ?_
  refine W_bipush d_134_21 (v := 60) (by decide) ?_
  refine W_newI d_134_23 (by decide) (by decide) (show 95 < 1000 by decide) (HF_push ((va_oth _ _ (by decide)).trans rfl)) ?_
  show Wp _ _ _ _ (.ref 95 :: _) (HF g 96 (va_up (wP P) 92 _)) _
  refine W_putf d_134_25 o_134 k_7_16 ((HF_get (by decide)).trans (va_same _ _ _)) (Nat.le_of_ble_eq_true rfl) (mput_ref (by decide) (by decide +kernel)) ((HF_set (by decide)).trans (congrArg (HF g _) va_va)) ?_
  refine W_aload_n d_134_28 rfl (by decide) ?_
  refine W_bipush d_134_29 (v := 6) (by decide) ?_
  refine W_newI d_134_31 (by decide) (by decide) (show 96 < 1000 by decide) (HF_push ((va_oth _ _ (by decide)).trans rfl)) ?_
  show Wp _ _ _ _ (.ref 96 :: _) (HF g 97 (va_up (wP P) 92 _)) _
  refine W_putf d_134_33 o_134 k_7_19 ((HF_get (by decide)).trans (va_same _ _ _)) (Nat.le_of_ble_eq_true rfl) (mput_ref (by decide) (by decide +kernel)) ((HF_set (by decide)).trans (congrArg (HF g _) va_va)) ?_
  refine W_aload_n d_134_36 rfl (by decide) ?_
  refine W_bipush d_134_37 (v := 6) (by decide) ?_
  refine W_newI d_134_39 (by decide) (by decide) (show 97 < 1000 by decide) (HF_push ((va_oth _ _ (by decide)).trans rfl)) ?_
  show Wp _ _ _ _ (.ref 97 :: _) (HF g 98 (va_up (wP P) 92 _)) _
  refine W_putf d_134_41 o_134 k_7_22 ((HF_get (by decide)).trans (va_same _ _ _)) (Nat.le_of_ble_eq_true rfl) (mput_ref (by decide) (by decide +kernel)) ((HF_set (by decide)).trans (congrArg (HF g _) va_va)) ?_
  refine W_aload_n d_134_44 rfl (by decide) ?_
  refine W_bipush d_134_45 (v := 6) (by decide) ?_
  refine W_newI d_134_47 (by decide) (by decide) (show 98 < 1000 by decide) (HF_push ((va_oth _ _ (by decide)).trans rfl)) ?_
  show Wp _ _ _ _ (.ref 98 :: _) (HF g 99 (va_up (wP P) 92 _)) _
  refine W_putf d_134_49 o_134 k_7_25 ((HF_get (by decide)).trans (va_same _ _ _)) (Nat.le_of_ble_eq_true rfl) (mput_ref (by decide) (by decide +kernel)) ((HF_set (by decide)).trans (congrArg (HF g _) va_va)) ?_
  refine W_aload_n d_134_52 rfl (by decide) ?_
  refine W_bipush d_134_53 (v := 10) (by decide) ?_
  refine W_putf d_134_55 o_134 k_7_28 ((HF_get (by decide)).trans (va_same _ _ _)) (Nat.le_of_ble_eq_true rfl) rfl ((HF_set (by decide)).trans (congrArg (HF g _) va_va)) ?_
  refine W_aload_n d_134_58 rfl (by decide) ?_
  refine W_sipush d_134_59 (v := 160) (by decide) ?_
  refine W_newI d_134_62 (by decide) (by decide) (show 99 < 1000 by decide) (HF_push ((va_oth _ _ (by decide)).trans rfl)) ?_
  show Wp _ _ _ _ (.ref 99 :: _) (HF g 100 (va_up (wP P) 92 _)) _
  refine W_putf d_134_64 o_134 k_7_32 ((HF_get (by decide)).trans (va_same _ _ _)) (Nat.le_of_ble_eq_true rfl) (mput_ref (by decide) (by decide +kernel)) ((HF_set (by decide)).trans (congrArg (HF g _) va_va)) ?_
  refine W_aload_n d_134_67 rfl (by decide) ?_
  refine W_sipush d_134_68 (v := 1200) (by decide) ?_
  refine W_newI d_134_71 (by decide) (by decide) (show 100 < 1000 by decide) (HF_push ((va_oth _ _ (by decide)).trans rfl)) ?_
  show Wp _ _ _ _ (.ref 100 :: _) (HF g 101 (va_up (wP P) 92 _)) _
  refine W_putf d_134_73 o_134 k_7_35 ((HF_get (by decide)).trans (va_same _ _ _)) (Nat.le_of_ble_eq_true rfl) (mput_ref (by decide) (by decide +kernel)) ((HF_set (by decide)).trans (congrArg (HF g _) va_va)) ?_
  refine W_aload_n d_134_76 rfl (by decide) ?_
  refine W_bipush d_134_77 (v := 24) (by decide) ?_
  refine W_newI d_134_79 (by decide) (by decide) (show 101 < 1000 by decide) (HF_push ((va_oth _ _ (by decide)).trans rfl)) ?_
  show Wp _ _ _ _ (.ref 101 :: _) (HF g 102 (va_up (wP P) 92 _)) _
  refine W_putf d_134_81 o_134 k_7_38 ((HF_get (by decide)).trans (va_same _ _ _)) (Nat.le_of_ble_eq_true rfl) (mput_ref (by decide) (by decide +kernel)) ((HF_set (by decide)).trans (congrArg (HF g _) va_va)) ?_
  refine W_aload_n d_134_84 rfl (by decide) ?_
  refine W_bipush d_134_85 (v := 78) (by decide) ?_
  refine W_newI d_134_87 (by decide) (by decide) (show 102 < 1000 by decide) (HF_push ((va_oth _ _ (by decide)).trans rfl)) ?_
  show Wp _ _ _ _ (.ref 102 :: _) (HF g 103 (va_up (wP P) 92 _)) _
  refine W_putf d_134_89 o_134 k_7_41 ((HF_get (by decide)).trans (va_same _ _ _)) (Nat.le_of_ble_eq_true rfl) (mput_ref (by decide) (by decide +kernel)) ((HF_set (by decide)).trans (congrArg (HF g _) va_va)) ?_
  refine W_aload_n d_134_92 rfl (by decide) ?_
  refine W_iconst d_134_93 (v := 5) (by decide) ?_
  refine W_newI d_134_94 (by decide) (by decide) (show 103 < 1000 by decide) (HF_push ((va_oth _ _ (by decide)).trans rfl)) ?_
  show Wp _ _ _ _ (.ref 103 :: _) (HF g 104 (va_up (wP P) 92 _)) _
  refine W_putf d_134_96 o_134 k_7_44 ((HF_get (by decide)).trans (va_same _ _ _)) (Nat.le_of_ble_eq_true rfl) (mput_ref (by decide) (by decide +kernel)) ((HF_set (by decide)).trans (congrArg (HF g _) va_va)) ?_
  refine W_aload_n d_134_99 rfl (by decide) ?_
  refine W_iconst d_134_100 (v := 4) (by decide) ?_
  refine W_newI d_134_101 (by decide) (by decide) (show 104 < 1000 by decide) HF_pushN ?_
  show Wp _ _ _ _ (.ref 104 :: _) (HF g 105 (va_up (va_up (wP P) 92 _) 104 (.inl (0, 4, pfx neg1 0)))) _
  refine W_dup d_134_103 rfl ?_
  refine W_iconst d_134_104 (v := 0) (by decide) ?_
  refine W_iconst d_134_105 (v := (-1)) (by decide) ?_
  refine W_iast d_134_106 ((HF_get (by decide)).trans (va_same _ _ _)) (vp_in_nI (n := 0) (by decide) (by decide)) ((HF_set (by decide)).trans (congrArg (HF g _) va_va)) ?_
  show Wp _ _ _ _ _ (HF g 105 (va_up (va_up (wP P) 92 _) 104 (.inl (0, 4, pfx neg1 1)))) _
  refine W_dup d_134_107 rfl ?_
  refine W_iconst d_134_108 (v := 1) (by decide) ?_
  refine W_iconst d_134_109 (v := (-1)) (by decide) ?_
  refine W_iast d_134_110 ((HF_get (by decide)).trans (va_same _ _ _)) (vp_in_nI (n := 1) (by decide) (by decide)) ((HF_set (by decide)).trans (congrArg (HF g _) va_va)) ?_
  show Wp _ _ _ _ _ (HF g 105 (va_up (va_up (wP P) 92 _) 104 (.inl (0, 4, pfx neg1 2)))) _
  refine W_dup d_134_111 rfl ?_
  refine W_iconst d_134_112 (v := 2) (by decide) ?_
  refine W_iconst d_134_113 (v := (-1)) (by decide) ?_
  refine W_iast d_134_114 ((HF_get (by decide)).trans (va_same _ _ _)) (vp_in_nI (n := 2) (by decide) (by decide)) ((HF_set (by decide)).trans (congrArg (HF g _) va_va)) ?_
  show Wp _ _ _ _ _ (HF g 105 (va_up (va_up (wP P) 92 _) 104 (.inl (0, 4, pfx neg1 3)))) _
  refine W_dup d_134_115 rfl ?_
  refine W_iconst d_134_116 (v := 3) (by decide) ?_
  refine W_iconst d_134_117 (v := (-1)) (by decide) ?_
  refine W_iast d_134_118 ((HF_get (by decide)).trans (va_same _ _ _)) (vp_in_nI (n := 3) (by decide) (by decide)) ((HF_set (by decide)).trans (congrArg (HF g _) va_va)) ?_
  show Wp _ _ _ _ _ (HF g 105 (va_up (va_up (wP P) 92 _) 104 (.inl (0, 4, pfx neg1 4)))) _
  rw [show ∀ o, va_up (va_up (wP P) 92 o) 104 (.inl (0, 4, pfx neg1 4)) = va_up (wP P) 92 o from fun o => ov_end ((va_oth _ _ (by decide)).trans rfl)]
  refine W_putf d_134_119 o_134 k_7_47 ((HF_get (by decide)).trans (va_same _ _ _)) (Nat.le_of_ble_eq_true rfl) (mput_ref (by decide) (by decide +kernel)) ((HF_set (by decide)).trans (congrArg (HF g _) va_va)) ?_
  refine W_aload_n d_134_122 rfl (by decide) ?_
  refine W_iconst d_134_123 (v := 4) (by decide) ?_
  refine W_newI d_134_124 (by decide) (by decide) (show 105 < 1000 by decide) (HF_push ((va_oth _ _ (by decide)).trans rfl)) ?_
  show Wp _ _ _ _ (.ref 105 :: _) (HF g 106 (va_up (wP P) 92 _)) _
  refine W_putf d_134_126 o_134 k_7_50 ((HF_get (by decide)).trans (va_same _ _ _)) (Nat.le_of_ble_eq_true rfl) (mput_ref (by decide) (by decide +kernel)) ((HF_set (by decide)).trans (congrArg (HF g _) va_va)) ?_
  refine W_aload_n d_134_129 rfl (by decide) ?_
  refine W_sipush d_134_130 (v := 160) (by decide) ?_
  refine W_newI d_134_133 (by decide) (by decide) (show 106 < 1000 by decide) (HF_push ((va_oth _ _ (by decide)).trans rfl)) ?_
  show Wp _ _ _ _ (.ref 106 :: _) (HF g 107 (va_up (wP P) 92 _)) _
  refine W_putf d_134_135 o_134 k_7_53 ((HF_get (by decide)).trans (va_same _ _ _)) (Nat.le_of_ble_eq_true rfl) (mput_ref (by decide) (by decide +kernel)) ((HF_set (by decide)).trans (congrArg (HF g _) va_va)) ?_
  refine W_aload_n d_134_138 rfl (by decide) ?_
  refine W_bipush d_134_139 (v := 36) (by decide) ?_
  refine W_newI d_134_141 (by decide) (by decide) (show 107 < 1000 by decide) HF_pushN ?_
  show Wp _ _ _ _ (.ref 107 :: _) (HF g 108 (va_up (va_up (wP P) 92 _) 107 (.inl (0, 36, pfx lwt 0)))) _
  refine W_dup d_134_143 rfl ?_
  refine W_iconst d_134_144 (v := 0) (by decide) ?_
  refine W_bipush d_134_145 (v := 102) (by decide) ?_
  refine W_iast d_134_147 ((HF_get (by decide)).trans (va_same _ _ _)) (vp_in_nI (n := 0) (by decide) (by decide)) ((HF_set (by decide)).trans (congrArg (HF g _) va_va)) ?_
  show Wp _ _ _ _ _ (HF g 108 (va_up (va_up (wP P) 92 _) 107 (.inl (0, 36, pfx lwt 1)))) _
  refine W_dup d_134_148 rfl ?_
  refine W_iconst d_134_149 (v := 1) (by decide) ?_
  refine W_bipush d_134_150 (v := 97) (by decide) ?_
  refine W_iast d_134_152 ((HF_get (by decide)).trans (va_same _ _ _)) (vp_in_nI (n := 1) (by decide) (by decide)) ((HF_set (by decide)).trans (congrArg (HF g _) va_va)) ?_
  show Wp _ _ _ _ _ (HF g 108 (va_up (va_up (wP P) 92 _) 107 (.inl (0, 36, pfx lwt 2)))) _
  refine W_dup d_134_153 rfl ?_
  refine W_iconst d_134_154 (v := 2) (by decide) ?_
  refine W_bipush d_134_155 (v := 108) (by decide) ?_
  refine W_iast d_134_157 ((HF_get (by decide)).trans (va_same _ _ _)) (vp_in_nI (n := 2) (by decide) (by decide)) ((HF_set (by decide)).trans (congrArg (HF g _) va_va)) ?_
  show Wp _ _ _ _ _ (HF g 108 (va_up (va_up (wP P) 92 _) 107 (.inl (0, 36, pfx lwt 3)))) _
  refine W_dup d_134_158 rfl ?_
  refine W_iconst d_134_159 (v := 3) (by decide) ?_
  refine W_bipush d_134_160 (v := 108) (by decide) ?_
  refine W_iast d_134_162 ((HF_get (by decide)).trans (va_same _ _ _)) (vp_in_nI (n := 3) (by decide) (by decide)) ((HF_set (by decide)).trans (congrArg (HF g _) va_va)) ?_
  show Wp _ _ _ _ _ (HF g 108 (va_up (va_up (wP P) 92 _) 107 (.inl (0, 36, pfx lwt 4)))) _
  refine W_dup d_134_163 rfl ?_
  refine W_iconst d_134_164 (v := 4) (by decide) ?_
  refine W_bipush d_134_165 (v := 115) (by decide) ?_
  refine W_iast d_134_167 ((HF_get (by decide)).trans (va_same _ _ _)) (vp_in_nI (n := 4) (by decide) (by decide)) ((HF_set (by decide)).trans (congrArg (HF g _) va_va)) ?_
  show Wp _ _ _ _ _ (HF g 108 (va_up (va_up (wP P) 92 _) 107 (.inl (0, 36, pfx lwt 5)))) _
  refine W_dup d_134_168 rfl ?_
  refine W_iconst d_134_169 (v := 5) (by decide) ?_
  refine W_bipush d_134_170 (v := 32) (by decide) ?_
  refine W_iast d_134_172 ((HF_get (by decide)).trans (va_same _ _ _)) (vp_in_nI (n := 5) (by decide) (by decide)) ((HF_set (by decide)).trans (congrArg (HF g _) va_va)) ?_
  show Wp _ _ _ _ _ (HF g 108 (va_up (va_up (wP P) 92 _) 107 (.inl (0, 36, pfx lwt 6)))) _
  refine W_dup d_134_173 rfl ?_
  refine W_bipush d_134_174 (v := 6) (by decide) ?_
  refine W_bipush d_134_176 (v := 50) (by decide) ?_
  refine W_iast d_134_178 ((HF_get (by decide)).trans (va_same _ _ _)) (vp_in_nI (n := 6) (by decide) (by decide)) ((HF_set (by decide)).trans (congrArg (HF g _) va_va)) ?_
  show Wp _ _ _ _ _ (HF g 108 (va_up (va_up (wP P) 92 _) 107 (.inl (0, 36, pfx lwt 7)))) _
  refine W_dup d_134_179 rfl ?_
  refine W_bipush d_134_180 (v := 7) (by decide) ?_
  refine W_bipush d_134_182 (v := 32) (by decide) ?_
  refine W_iast d_134_184 ((HF_get (by decide)).trans (va_same _ _ _)) (vp_in_nI (n := 7) (by decide) (by decide)) ((HF_set (by decide)).trans (congrArg (HF g _) va_va)) ?_
  show Wp _ _ _ _ _ (HF g 108 (va_up (va_up (wP P) 92 _) 107 (.inl (0, 36, pfx lwt 8)))) _
  refine W_dup d_134_185 rfl ?_
  refine W_bipush d_134_186 (v := 8) (by decide) ?_
  refine W_bipush d_134_188 (v := 59) (by decide) ?_
  refine W_iast d_134_190 ((HF_get (by decide)).trans (va_same _ _ _)) (vp_in_nI (n := 8) (by decide) (by decide)) ((HF_set (by decide)).trans (congrArg (HF g _) va_va)) ?_
  show Wp _ _ _ _ _ (HF g 108 (va_up (va_up (wP P) 92 _) 107 (.inl (0, 36, pfx lwt 9)))) _
  refine W_dup d_134_191 rfl ?_
  refine W_bipush d_134_192 (v := 9) (by decide) ?_
  refine W_bipush d_134_194 (v := 32) (by decide) ?_
  refine W_iast d_134_196 ((HF_get (by decide)).trans (va_same _ _ _)) (vp_in_nI (n := 9) (by decide) (by decide)) ((HF_set (by decide)).trans (congrArg (HF g _) va_va)) ?_
  show Wp _ _ _ _ _ (HF g 108 (va_up (va_up (wP P) 92 _) 107 (.inl (0, 36, pfx lwt 10)))) _
  refine W_dup d_134_197 rfl ?_
  refine W_bipush d_134_198 (v := 10) (by decide) ?_
  refine W_bipush d_134_200 (v := 116) (by decide) ?_
  refine W_iast d_134_202 ((HF_get (by decide)).trans (va_same _ _ _)) (vp_in_nI (n := 10) (by decide) (by decide)) ((HF_set (by decide)).trans (congrArg (HF g _) va_va)) ?_
  show Wp _ _ _ _ _ (HF g 108 (va_up (va_up (wP P) 92 _) 107 (.inl (0, 36, pfx lwt 11)))) _
  refine W_dup d_134_203 rfl ?_
  refine W_bipush d_134_204 (v := 11) (by decide) ?_
  refine W_bipush d_134_206 (v := 97) (by decide) ?_
  refine W_iast d_134_208 ((HF_get (by decide)).trans (va_same _ _ _)) (vp_in_nI (n := 11) (by decide) (by decide)) ((HF_set (by decide)).trans (congrArg (HF g _) va_va)) ?_
  show Wp _ _ _ _ _ (HF g 108 (va_up (va_up (wP P) 92 _) 107 (.inl (0, 36, pfx lwt 12)))) _
  refine W_dup d_134_209 rfl ?_
  refine W_bipush d_134_210 (v := 12) (by decide) ?_
  refine W_bipush d_134_212 (v := 107) (by decide) ?_
  refine W_iast d_134_214 ((HF_get (by decide)).trans (va_same _ _ _)) (vp_in_nI (n := 12) (by decide) (by decide)) ((HF_set (by decide)).trans (congrArg (HF g _) va_va)) ?_
  show Wp _ _ _ _ _ (HF g 108 (va_up (va_up (wP P) 92 _) 107 (.inl (0, 36, pfx lwt 13)))) _
  refine W_dup d_134_215 rfl ?_
  refine W_bipush d_134_216 (v := 13) (by decide) ?_
  refine W_bipush d_134_218 (v := 101) (by decide) ?_
  refine W_iast d_134_220 ((HF_get (by decide)).trans (va_same _ _ _)) (vp_in_nI (n := 13) (by decide) (by decide)) ((HF_set (by decide)).trans (congrArg (HF g _) va_va)) ?_
  show Wp _ _ _ _ _ (HF g 108 (va_up (va_up (wP P) 92 _) 107 (.inl (0, 36, pfx lwt 14)))) _
  refine W_dup d_134_221 rfl ?_
  refine W_bipush d_134_222 (v := 14) (by decide) ?_
  refine W_bipush d_134_224 (v := 115) (by decide) ?_
  refine W_iast d_134_226 ((HF_get (by decide)).trans (va_same _ _ _)) (vp_in_nI (n := 14) (by decide) (by decide)) ((HF_set (by decide)).trans (congrArg (HF g _) va_va)) ?_
  show Wp _ _ _ _ _ (HF g 108 (va_up (va_up (wP P) 92 _) 107 (.inl (0, 36, pfx lwt 15)))) _
  refine W_dup d_134_227 rfl ?_
  refine W_bipush d_134_228 (v := 15) (by decide) ?_
  refine W_bipush d_134_230 (v := 32) (by decide) ?_
  refine W_iast d_134_232 ((HF_get (by decide)).trans (va_same _ _ _)) (vp_in_nI (n := 15) (by decide) (by decide)) ((HF_set (by decide)).trans (congrArg (HF g _) va_va)) ?_
  show Wp _ _ _ _ _ (HF g 108 (va_up (va_up (wP P) 92 _) 107 (.inl (0, 36, pfx lwt 16)))) _
  refine W_dup d_134_233 rfl ?_
  refine W_bipush d_134_234 (v := 16) (by decide) ?_
  refine W_bipush d_134_236 (v := 51) (by decide) ?_
  refine W_iast d_134_238 ((HF_get (by decide)).trans (va_same _ _ _)) (vp_in_nI (n := 16) (by decide) (by decide)) ((HF_set (by decide)).trans (congrArg (HF g _) va_va)) ?_
  show Wp _ _ _ _ _ (HF g 108 (va_up (va_up (wP P) 92 _) 107 (.inl (0, 36, pfx lwt 17)))) _
  refine W_dup d_134_239 rfl ?_
  refine W_bipush d_134_240 (v := 17) (by decide) ?_
  refine W_bipush d_134_242 (v := 32) (by decide) ?_
  refine W_iast d_134_244 ((HF_get (by decide)).trans (va_same _ _ _)) (vp_in_nI (n := 17) (by decide) (by decide)) ((HF_set (by decide)).trans (congrArg (HF g _) va_va)) ?_
  show Wp _ _ _ _ _ (HF g 108 (va_up (va_up (wP P) 92 _) 107 (.inl (0, 36, pfx lwt 18)))) _
  refine W_dup d_134_245 rfl ?_
  refine W_bipush d_134_246 (v := 18) (by decide) ?_
  refine W_bipush d_134_248 (v := 43) (by decide) ?_
  refine W_iast d_134_250 ((HF_get (by decide)).trans (va_same _ _ _)) (vp_in_nI (n := 18) (by decide) (by decide)) ((HF_set (by decide)).trans (congrArg (HF g _) va_va)) ?_
  show Wp _ _ _ _ _ (HF g 108 (va_up (va_up (wP P) 92 _) 107 (.inl (0, 36, pfx lwt 19)))) _
  refine W_dup d_134_251 rfl ?_
  refine W_bipush d_134_252 (v := 19) (by decide) ?_
  refine W_bipush d_134_254 (v := 32) (by decide) ?_
  refine W_iast d_134_256 ((HF_get (by decide)).trans (va_same _ _ _)) (vp_in_nI (n := 19) (by decide) (by decide)) ((HF_set (by decide)).trans (congrArg (HF g _) va_va)) ?_
  show Wp _ _ _ _ _ (HF g 108 (va_up (va_up (wP P) 92 _) 107 (.inl (0, 36, pfx lwt 20)))) _
  refine W_dup d_134_257 rfl ?_
  refine W_bipush d_134_258 (v := 20) (by decide) ?_
  refine W_bipush d_134_260 (v := 119) (by decide) ?_
  refine W_iast d_134_262 ((HF_get (by decide)).trans (va_same _ _ _)) (vp_in_nI (n := 20) (by decide) (by decide)) ((HF_set (by decide)).trans (congrArg (HF g _) va_va)) ?_
  show Wp _ _ _ _ _ (HF g 108 (va_up (va_up (wP P) 92 _) 107 (.inl (0, 36, pfx lwt 21)))) _
  refine W_dup d_134_263 rfl ?_
  refine W_bipush d_134_264 (v := 21) (by decide) ?_
  refine W_bipush d_134_266 (v := 97) (by decide) ?_
  refine W_iast d_134_268 ((HF_get (by decide)).trans (va_same _ _ _)) (vp_in_nI (n := 21) (by decide) (by decide)) ((HF_set (by decide)).trans (congrArg (HF g _) va_va)) ?_
  show Wp _ _ _ _ _ (HF g 108 (va_up (va_up (wP P) 92 _) 107 (.inl (0, 36, pfx lwt 22)))) _
  refine W_dup d_134_269 rfl ?_
  refine W_bipush d_134_270 (v := 22) (by decide) ?_
  refine W_bipush d_134_272 (v := 108) (by decide) ?_
  refine W_iast d_134_274 ((HF_get (by decide)).trans (va_same _ _ _)) (vp_in_nI (n := 22) (by decide) (by decide)) ((HF_set (by decide)).trans (congrArg (HF g _) va_va)) ?_
  show Wp _ _ _ _ _ (HF g 108 (va_up (va_up (wP P) 92 _) 107 (.inl (0, 36, pfx lwt 23)))) _
  refine W_dup d_134_275 rfl ?_
  refine W_bipush d_134_276 (v := 23) (by decide) ?_
  refine W_bipush d_134_278 (v := 108) (by decide) ?_
  refine W_iast d_134_280 ((HF_get (by decide)).trans (va_same _ _ _)) (vp_in_nI (n := 23) (by decide) (by decide)) ((HF_set (by decide)).trans (congrArg (HF g _) va_va)) ?_
  show Wp _ _ _ _ _ (HF g 108 (va_up (va_up (wP P) 92 _) 107 (.inl (0, 36, pfx lwt 24)))) _
  refine W_dup d_134_281 rfl ?_
  refine W_bipush d_134_282 (v := 24) (by decide) ?_
  refine W_bipush d_134_284 (v := 32) (by decide) ?_
  refine W_iast d_134_286 ((HF_get (by decide)).trans (va_same _ _ _)) (vp_in_nI (n := 24) (by decide) (by decide)) ((HF_set (by decide)).trans (congrArg (HF g _) va_va)) ?_
  show Wp _ _ _ _ _ (HF g 108 (va_up (va_up (wP P) 92 _) 107 (.inl (0, 36, pfx lwt 25)))) _
  refine W_dup d_134_287 rfl ?_
  refine W_bipush d_134_288 (v := 25) (by decide) ?_
  refine W_bipush d_134_290 (v := 59) (by decide) ?_
  refine W_iast d_134_292 ((HF_get (by decide)).trans (va_same _ _ _)) (vp_in_nI (n := 25) (by decide) (by decide)) ((HF_set (by decide)).trans (congrArg (HF g _) va_va)) ?_
  show Wp _ _ _ _ _ (HF g 108 (va_up (va_up (wP P) 92 _) 107 (.inl (0, 36, pfx lwt 26)))) _
  refine W_dup d_134_293 rfl ?_
  refine W_bipush d_134_294 (v := 26) (by decide) ?_
  refine W_bipush d_134_296 (v := 32) (by decide) ?_
  refine W_iast d_134_298 ((HF_get (by decide)).trans (va_same _ _ _)) (vp_in_nI (n := 26) (by decide) (by decide)) ((HF_set (by decide)).trans (congrArg (HF g _) va_va)) ?_
  show Wp _ _ _ _ _ (HF g 108 (va_up (va_up (wP P) 92 _) 107 (.inl (0, 36, pfx lwt 27)))) _
  refine W_dup d_134_299 rfl ?_
  refine W_bipush d_134_300 (v := 27) (by decide) ?_
  refine W_bipush d_134_302 (v := 108) (by decide) ?_
  refine W_iast d_134_304 ((HF_get (by decide)).trans (va_same _ _ _)) (vp_in_nI (n := 27) (by decide) (by decide)) ((HF_set (by decide)).trans (congrArg (HF g _) va_va)) ?_
  show Wp _ _ _ _ _ (HF g 108 (va_up (va_up (wP P) 92 _) 107 (.inl (0, 36, pfx lwt 28)))) _
  refine W_dup d_134_305 rfl ?_
  refine W_bipush d_134_306 (v := 28) (by decide) ?_
  refine W_bipush d_134_308 (v := 105) (by decide) ?_
  refine W_iast d_134_310 ((HF_get (by decide)).trans (va_same _ _ _)) (vp_in_nI (n := 28) (by decide) (by decide)) ((HF_set (by decide)).trans (congrArg (HF g _) va_va)) ?_
  show Wp _ _ _ _ _ (HF g 108 (va_up (va_up (wP P) 92 _) 107 (.inl (0, 36, pfx lwt 29)))) _
  refine W_dup d_134_311 rfl ?_
  refine W_bipush d_134_312 (v := 29) (by decide) ?_
  refine W_bipush d_134_314 (v := 102) (by decide) ?_
  refine W_iast d_134_316 ((HF_get (by decide)).trans (va_same _ _ _)) (vp_in_nI (n := 29) (by decide) (by decide)) ((HF_set (by decide)).trans (congrArg (HF g _) va_va)) ?_
  show Wp _ _ _ _ _ (HF g 108 (va_up (va_up (wP P) 92 _) 107 (.inl (0, 36, pfx lwt 30)))) _
  refine W_dup d_134_317 rfl ?_
  refine W_bipush d_134_318 (v := 30) (by decide) ?_
  refine W_bipush d_134_320 (v := 116) (by decide) ?_
  refine W_iast d_134_322 ((HF_get (by decide)).trans (va_same _ _ _)) (vp_in_nI (n := 30) (by decide) (by decide)) ((HF_set (by decide)).trans (congrArg (HF g _) va_va)) ?_
  show Wp _ _ _ _ _ (HF g 108 (va_up (va_up (wP P) 92 _) 107 (.inl (0, 36, pfx lwt 31)))) _
  refine W_dup d_134_323 rfl ?_
  refine W_bipush d_134_324 (v := 31) (by decide) ?_
  refine W_bipush d_134_326 (v := 115) (by decide) ?_
  refine W_iast d_134_328 ((HF_get (by decide)).trans (va_same _ _ _)) (vp_in_nI (n := 31) (by decide) (by decide)) ((HF_set (by decide)).trans (congrArg (HF g _) va_va)) ?_
  show Wp _ _ _ _ _ (HF g 108 (va_up (va_up (wP P) 92 _) 107 (.inl (0, 36, pfx lwt 32)))) _
  refine W_dup d_134_329 rfl ?_
  refine W_bipush d_134_330 (v := 32) (by decide) ?_
  refine W_bipush d_134_332 (v := 32) (by decide) ?_
  refine W_iast d_134_334 ((HF_get (by decide)).trans (va_same _ _ _)) (vp_in_nI (n := 32) (by decide) (by decide)) ((HF_set (by decide)).trans (congrArg (HF g _) va_va)) ?_
  show Wp _ _ _ _ _ (HF g 108 (va_up (va_up (wP P) 92 _) 107 (.inl (0, 36, pfx lwt 33)))) _
  refine W_dup d_134_335 rfl ?_
  refine W_bipush d_134_336 (v := 33) (by decide) ?_
  refine W_bipush d_134_338 (v := 49) (by decide) ?_
  refine W_iast d_134_340 ((HF_get (by decide)).trans (va_same _ _ _)) (vp_in_nI (n := 33) (by decide) (by decide)) ((HF_set (by decide)).trans (congrArg (HF g _) va_va)) ?_
  show Wp _ _ _ _ _ (HF g 108 (va_up (va_up (wP P) 92 _) 107 (.inl (0, 36, pfx lwt 34)))) _
  refine W_dup d_134_341 rfl ?_
  refine W_bipush d_134_342 (v := 34) (by decide) ?_
  refine W_bipush d_134_344 (v := 32) (by decide) ?_
  refine W_iast d_134_346 ((HF_get (by decide)).trans (va_same _ _ _)) (vp_in_nI (n := 34) (by decide) (by decide)) ((HF_set (by decide)).trans (congrArg (HF g _) va_va)) ?_
  show Wp _ _ _ _ _ (HF g 108 (va_up (va_up (wP P) 92 _) 107 (.inl (0, 36, pfx lwt 35)))) _
  refine W_dup d_134_347 rfl ?_
  refine W_bipush d_134_348 (v := 35) (by decide) ?_
  refine W_bipush d_134_350 (v := 59) (by decide) ?_
  refine W_iast d_134_352 ((HF_get (by decide)).trans (va_same _ _ _)) (vp_in_nI (n := 35) (by decide) (by decide)) ((HF_set (by decide)).trans (congrArg (HF g _) va_va)) ?_
  show Wp _ _ _ _ _ (HF g 108 (va_up (va_up (wP P) 92 _) 107 (.inl (0, 36, pfx lwt 36)))) _
  rw [show ∀ o, va_up (va_up (wP P) 92 o) 107 (.inl (0, 36, pfx lwt 36)) = va_up (wP P) 92 o from fun o => ov_end ((va_oth _ _ (by decide)).trans rfl)]
  refine W_putf d_134_353 o_134 k_7_56 ((HF_get (by decide)).trans (va_same _ _ _)) (Nat.le_of_ble_eq_true rfl) (mput_ref (by decide) (by decide +kernel)) ((HF_set (by decide)).trans (congrArg (HF g _) va_va)) ?_
  refine W_aload_n d_134_356 rfl (by decide) ?_
  refine W_bipush d_134_357 (v := 96) (by decide) ?_
  refine W_newI d_134_359 (by decide) (by decide) (show 108 < 1000 by decide) HF_pushN ?_
  show Wp _ _ _ _ (.ref 108 :: _) (HF g 109 (va_up (va_up (wP P) 92 _) 108 (.inl (0, 96, pfx wdr 0)))) _
  refine W_dup d_134_361 rfl ?_
  refine W_iconst d_134_362 (v := 0) (by decide) ?_
  refine W_bipush d_134_363 (v := 102) (by decide) ?_
  refine W_iast d_134_365 ((HF_get (by decide)).trans (va_same _ _ _)) (vp_in_nI (n := 0) (by decide) (by decide)) ((HF_set (by decide)).trans (congrArg (HF g _) va_va)) ?_
  show Wp _ _ _ _ _ (HF g 109 (va_up (va_up (wP P) 92 _) 108 (.inl (0, 96, pfx wdr 1)))) _
  refine W_dup d_134_366 rfl ?_
  refine W_iconst d_134_367 (v := 1) (by decide) ?_
  refine W_bipush d_134_368 (v := 97) (by decide) ?_
  refine W_iast d_134_370 ((HF_get (by decide)).trans (va_same _ _ _)) (vp_in_nI (n := 1) (by decide) (by decide)) ((HF_set (by decide)).trans (congrArg (HF g _) va_va)) ?_
  show Wp _ _ _ _ _ (HF g 109 (va_up (va_up (wP P) 92 _) 108 (.inl (0, 96, pfx wdr 2)))) _
  refine W_dup d_134_371 rfl ?_
  refine W_iconst d_134_372 (v := 2) (by decide) ?_
  refine W_bipush d_134_373 (v := 108) (by decide) ?_
  refine W_iast d_134_375 ((HF_get (by decide)).trans (va_same _ _ _)) (vp_in_nI (n := 2) (by decide) (by decide)) ((HF_set (by decide)).trans (congrArg (HF g _) va_va)) ?_
  show Wp _ _ _ _ _ (HF g 109 (va_up (va_up (wP P) 92 _) 108 (.inl (0, 96, pfx wdr 3)))) _
  refine W_dup d_134_376 rfl ?_
  refine W_iconst d_134_377 (v := 3) (by decide) ?_
  refine W_bipush d_134_378 (v := 108) (by decide) ?_
  refine W_iast d_134_380 ((HF_get (by decide)).trans (va_same _ _ _)) (vp_in_nI (n := 3) (by decide) (by decide)) ((HF_set (by decide)).trans (congrArg (HF g _) va_va)) ?_
  show Wp _ _ _ _ _ (HF g 109 (va_up (va_up (wP P) 92 _) 108 (.inl (0, 96, pfx wdr 4)))) _
  refine W_dup d_134_381 rfl ?_
  refine W_iconst d_134_382 (v := 4) (by decide) ?_
  refine W_bipush d_134_383 (v := 115) (by decide) ?_
  refine W_iast d_134_385 ((HF_get (by decide)).trans (va_same _ _ _)) (vp_in_nI (n := 4) (by decide) (by decide)) ((HF_set (by decide)).trans (congrArg (HF g _) va_va)) ?_
  show Wp _ _ _ _ _ (HF g 109 (va_up (va_up (wP P) 92 _) 108 (.inl (0, 96, pfx wdr 5)))) _
  refine W_dup d_134_386 rfl ?_
  refine W_iconst d_134_387 (v := 5) (by decide) ?_
  refine W_bipush d_134_388 (v := 32) (by decide) ?_
  refine W_iast d_134_390 ((HF_get (by decide)).trans (va_same _ _ _)) (vp_in_nI (n := 5) (by decide) (by decide)) ((HF_set (by decide)).trans (congrArg (HF g _) va_va)) ?_
  show Wp _ _ _ _ _ (HF g 109 (va_up (va_up (wP P) 92 _) 108 (.inl (0, 96, pfx wdr 6)))) _
  refine W_dup d_134_391 rfl ?_
  refine W_bipush d_134_392 (v := 6) (by decide) ?_
  refine W_bipush d_134_394 (v := 32) (by decide) ?_
  refine W_iast d_134_396 ((HF_get (by decide)).trans (va_same _ _ _)) (vp_in_nI (n := 6) (by decide) (by decide)) ((HF_set (by decide)).trans (congrArg (HF g _) va_va)) ?_
  show Wp _ _ _ _ _ (HF g 109 (va_up (va_up (wP P) 92 _) 108 (.inl (0, 96, pfx wdr 7)))) _
  refine W_dup d_134_397 rfl ?_
  refine W_bipush d_134_398 (v := 7) (by decide) ?_
  refine W_bipush d_134_400 (v := 32) (by decide) ?_
  refine W_iast d_134_402 ((HF_get (by decide)).trans (va_same _ _ _)) (vp_in_nI (n := 7) (by decide) (by decide)) ((HF_set (by decide)).trans (congrArg (HF g _) va_va)) ?_
  show Wp _ _ _ _ _ (HF g 109 (va_up (va_up (wP P) 92 _) 108 (.inl (0, 96, pfx wdr 8)))) _
  refine W_dup d_134_403 rfl ?_
  refine W_bipush d_134_404 (v := 8) (by decide) ?_
  refine W_bipush d_134_406 (v := 116) (by decide) ?_
  refine W_iast d_134_408 ((HF_get (by decide)).trans (va_same _ _ _)) (vp_in_nI (n := 8) (by decide) (by decide)) ((HF_set (by decide)).trans (congrArg (HF g _) va_va)) ?_
  show Wp _ _ _ _ _ (HF g 109 (va_up (va_up (wP P) 92 _) 108 (.inl (0, 96, pfx wdr 9)))) _
  refine W_dup d_134_409 rfl ?_
  refine W_bipush d_134_410 (v := 9) (by decide) ?_
  refine W_bipush d_134_412 (v := 97) (by decide) ?_
  refine W_iast d_134_414 ((HF_get (by decide)).trans (va_same _ _ _)) (vp_in_nI (n := 9) (by decide) (by decide)) ((HF_set (by decide)).trans (congrArg (HF g _) va_va)) ?_
  show Wp _ _ _ _ _ (HF g 109 (va_up (va_up (wP P) 92 _) 108 (.inl (0, 96, pfx wdr 10)))) _
  refine W_dup d_134_415 rfl ?_
  refine W_bipush d_134_416 (v := 10) (by decide) ?_
  refine W_bipush d_134_418 (v := 107) (by decide) ?_
  refine W_iast d_134_420 ((HF_get (by decide)).trans (va_same _ _ _)) (vp_in_nI (n := 10) (by decide) (by decide)) ((HF_set (by decide)).trans (congrArg (HF g _) va_va)) ?_
  show Wp _ _ _ _ _ (HF g 109 (va_up (va_up (wP P) 92 _) 108 (.inl (0, 96, pfx wdr 11)))) _
  refine W_dup d_134_421 rfl ?_
  refine W_bipush d_134_422 (v := 11) (by decide) ?_
  refine W_bipush d_134_424 (v := 101) (by decide) ?_
  refine W_iast d_134_426 ((HF_get (by decide)).trans (va_same _ _ _)) (vp_in_nI (n := 11) (by decide) (by decide)) ((HF_set (by decide)).trans (congrArg (HF g _) va_va)) ?_
  show Wp _ _ _ _ _ (HF g 109 (va_up (va_up (wP P) 92 _) 108 (.inl (0, 96, pfx wdr 12)))) _
  refine W_dup d_134_427 rfl ?_
  refine W_bipush d_134_428 (v := 12) (by decide) ?_
  refine W_bipush d_134_430 (v := 115) (by decide) ?_
  refine W_iast d_134_432 ((HF_get (by decide)).trans (va_same _ _ _)) (vp_in_nI (n := 12) (by decide) (by decide)) ((HF_set (by decide)).trans (congrArg (HF g _) va_va)) ?_
  show Wp _ _ _ _ _ (HF g 109 (va_up (va_up (wP P) 92 _) 108 (.inl (0, 96, pfx wdr 13)))) _
  refine W_dup d_134_433 rfl ?_
  refine W_bipush d_134_434 (v := 13) (by decide) ?_
  refine W_bipush d_134_436 (v := 32) (by decide) ?_
  refine W_iast d_134_438 ((HF_get (by decide)).trans (va_same _ _ _)) (vp_in_nI (n := 13) (by decide) (by decide)) ((HF_set (by decide)).trans (congrArg (HF g _) va_va)) ?_
  show Wp _ _ _ _ _ (HF g 109 (va_up (va_up (wP P) 92 _) 108 (.inl (0, 96, pfx wdr 14)))) _
  refine W_dup d_134_439 rfl ?_
  refine W_bipush d_134_440 (v := 14) (by decide) ?_
  refine W_bipush d_134_442 (v := 32) (by decide) ?_
  refine W_iast d_134_444 ((HF_get (by decide)).trans (va_same _ _ _)) (vp_in_nI (n := 14) (by decide) (by decide)) ((HF_set (by decide)).trans (congrArg (HF g _) va_va)) ?_
  show Wp _ _ _ _ _ (HF g 109 (va_up (va_up (wP P) 92 _) 108 (.inl (0, 96, pfx wdr 15)))) _
  refine W_dup d_134_445 rfl ?_
  refine W_bipush d_134_446 (v := 15) (by decide) ?_
  refine W_bipush d_134_448 (v := 32) (by decide) ?_
  refine W_iast d_134_450 ((HF_get (by decide)).trans (va_same _ _ _)) (vp_in_nI (n := 15) (by decide) (by decide)) ((HF_set (by decide)).trans (congrArg (HF g _) va_va)) ?_
  show Wp _ _ _ _ _ (HF g 109 (va_up (va_up (wP P) 92 _) 108 (.inl (0, 96, pfx wdr 16)))) _
  refine W_dup d_134_451 rfl ?_
  refine W_bipush d_134_452 (v := 16) (by decide) ?_
  refine W_bipush d_134_454 (v := 108) (by decide) ?_
  refine W_iast d_134_456 ((HF_get (by decide)).trans (va_same _ _ _)) (vp_in_nI (n := 16) (by decide) (by decide)) ((HF_set (by decide)).trans (congrArg (HF g _) va_va)) ?_
  show Wp _ _ _ _ _ (HF g 109 (va_up (va_up (wP P) 92 _) 108 (.inl (0, 96, pfx wdr 17)))) _
  refine W_dup d_134_457 rfl ?_
  refine W_bipush d_134_458 (v := 17) (by decide) ?_
  refine W_bipush d_134_460 (v := 105) (by decide) ?_
  refine W_iast d_134_462 ((HF_get (by decide)).trans (va_same _ _ _)) (vp_in_nI (n := 17) (by decide) (by decide)) ((HF_set (by decide)).trans (congrArg (HF g _) va_va)) ?_
  show Wp _ _ _ _ _ (HF g 109 (va_up (va_up (wP P) 92 _) 108 (.inl (0, 96, pfx wdr 18)))) _
  refine W_dup d_134_463 rfl ?_
  refine W_bipush d_134_464 (v := 18) (by decide) ?_
  refine W_bipush d_134_466 (v := 102) (by decide) ?_
  refine W_iast d_134_468 ((HF_get (by decide)).trans (va_same _ _ _)) (vp_in_nI (n := 18) (by decide) (by decide)) ((HF_set (by decide)).trans (congrArg (HF g _) va_va)) ?_
  show Wp _ _ _ _ _ (HF g 109 (va_up (va_up (wP P) 92 _) 108 (.inl (0, 96, pfx wdr 19)))) _
  refine W_dup d_134_469 rfl ?_
  refine W_bipush d_134_470 (v := 19) (by decide) ?_
  refine W_bipush d_134_472 (v := 116) (by decide) ?_
  refine W_iast d_134_474 ((HF_get (by decide)).trans (va_same _ _ _)) (vp_in_nI (n := 19) (by decide) (by decide)) ((HF_set (by decide)).trans (congrArg (HF g _) va_va)) ?_
  show Wp _ _ _ _ _ (HF g 109 (va_up (va_up (wP P) 92 _) 108 (.inl (0, 96, pfx wdr 20)))) _
  refine W_dup d_134_475 rfl ?_
  refine W_bipush d_134_476 (v := 20) (by decide) ?_
  refine W_bipush d_134_478 (v := 115) (by decide) ?_
  refine W_iast d_134_480 ((HF_get (by decide)).trans (va_same _ _ _)) (vp_in_nI (n := 20) (by decide) (by decide)) ((HF_set (by decide)).trans (congrArg (HF g _) va_va)) ?_
  show Wp _ _ _ _ _ (HF g 109 (va_up (va_up (wP P) 92 _) 108 (.inl (0, 96, pfx wdr 21)))) _
  refine W_dup d_134_481 rfl ?_
  refine W_bipush d_134_482 (v := 21) (by decide) ?_
  refine W_bipush d_134_484 (v := 32) (by decide) ?_
  refine W_iast d_134_486 ((HF_get (by decide)).trans (va_same _ _ _)) (vp_in_nI (n := 21) (by decide) (by decide)) ((HF_set (by decide)).trans (congrArg (HF g _) va_va)) ?_
  show Wp _ _ _ _ _ (HF g 109 (va_up (va_up (wP P) 92 _) 108 (.inl (0, 96, pfx wdr 22)))) _
  refine W_dup d_134_487 rfl ?_
  refine W_bipush d_134_488 (v := 22) (by decide) ?_
  refine W_bipush d_134_490 (v := 32) (by decide) ?_
  refine W_iast d_134_492 ((HF_get (by decide)).trans (va_same _ _ _)) (vp_in_nI (n := 22) (by decide) (by decide)) ((HF_set (by decide)).trans (congrArg (HF g _) va_va)) ?_
  show Wp _ _ _ _ _ (HF g 109 (va_up (va_up (wP P) 92 _) 108 (.inl (0, 96, pfx wdr 23)))) _
  refine W_dup d_134_493 rfl ?_
  refine W_bipush d_134_494 (v := 23) (by decide) ?_
  refine W_bipush d_134_496 (v := 32) (by decide) ?_
  refine W_iast d_134_498 ((HF_get (by decide)).trans (va_same _ _ _)) (vp_in_nI (n := 23) (by decide) (by decide)) ((HF_set (by decide)).trans (congrArg (HF g _) va_va)) ?_
  show Wp _ _ _ _ _ (HF g 109 (va_up (va_up (wP P) 92 _) 108 (.inl (0, 96, pfx wdr 24)))) _
  refine W_dup d_134_499 rfl ?_
  refine W_bipush d_134_500 (v := 24) (by decide) ?_
  refine W_bipush d_134_502 (v := 104) (by decide) ?_
  refine W_iast d_134_504 ((HF_get (by decide)).trans (va_same _ _ _)) (vp_in_nI (n := 24) (by decide) (by decide)) ((HF_set (by decide)).trans (congrArg (HF g _) va_va)) ?_
  show Wp _ _ _ _ _ (HF g 109 (va_up (va_up (wP P) 92 _) 108 (.inl (0, 96, pfx wdr 25)))) _
  refine W_dup d_134_505 rfl ?_
  refine W_bipush d_134_506 (v := 25) (by decide) ?_
  refine W_bipush d_134_508 (v := 111) (by decide) ?_
  refine W_iast d_134_510 ((HF_get (by decide)).trans (va_same _ _ _)) (vp_in_nI (n := 25) (by decide) (by decide)) ((HF_set (by decide)).trans (congrArg (HF g _) va_va)) ?_
  show Wp _ _ _ _ _ (HF g 109 (va_up (va_up (wP P) 92 _) 108 (.inl (0, 96, pfx wdr 26)))) _
  refine W_dup d_134_511 rfl ?_
  refine W_bipush d_134_512 (v := 26) (by decide) ?_
  refine W_bipush d_134_514 (v := 117) (by decide) ?_
  refine W_iast d_134_516 ((HF_get (by decide)).trans (va_same _ _ _)) (vp_in_nI (n := 26) (by decide) (by decide)) ((HF_set (by decide)).trans (congrArg (HF g _) va_va)) ?_
  show Wp _ _ _ _ _ (HF g 109 (va_up (va_up (wP P) 92 _) 108 (.inl (0, 96, pfx wdr 27)))) _
  refine W_dup d_134_517 rfl ?_
  refine W_bipush d_134_518 (v := 27) (by decide) ?_
  refine W_bipush d_134_520 (v := 114) (by decide) ?_
  refine W_iast d_134_522 ((HF_get (by decide)).trans (va_same _ _ _)) (vp_in_nI (n := 27) (by decide) (by decide)) ((HF_set (by decide)).trans (congrArg (HF g _) va_va)) ?_
  show Wp _ _ _ _ _ (HF g 109 (va_up (va_up (wP P) 92 _) 108 (.inl (0, 96, pfx wdr 28)))) _
  refine W_dup d_134_523 rfl ?_
  refine W_bipush d_134_524 (v := 28) (by decide) ?_
  refine W_bipush d_134_526 (v := 32) (by decide) ?_
  refine W_iast d_134_528 ((HF_get (by decide)).trans (va_same _ _ _)) (vp_in_nI (n := 28) (by decide) (by decide)) ((HF_set (by decide)).trans (congrArg (HF g _) va_va)) ?_
  show Wp _ _ _ _ _ (HF g 109 (va_up (va_up (wP P) 92 _) 108 (.inl (0, 96, pfx wdr 29)))) _
  refine W_dup d_134_529 rfl ?_
  refine W_bipush d_134_530 (v := 29) (by decide) ?_
  refine W_bipush d_134_532 (v := 32) (by decide) ?_
  refine W_iast d_134_534 ((HF_get (by decide)).trans (va_same _ _ _)) (vp_in_nI (n := 29) (by decide) (by decide)) ((HF_set (by decide)).trans (congrArg (HF g _) va_va)) ?_
  show Wp _ _ _ _ _ (HF g 109 (va_up (va_up (wP P) 92 _) 108 (.inl (0, 96, pfx wdr 30)))) _
  refine W_dup d_134_535 rfl ?_
  refine W_bipush d_134_536 (v := 30) (by decide) ?_
  refine W_bipush d_134_538 (v := 32) (by decide) ?_
  refine W_iast d_134_540 ((HF_get (by decide)).trans (va_same _ _ _)) (vp_in_nI (n := 30) (by decide) (by decide)) ((HF_set (by decide)).trans (congrArg (HF g _) va_va)) ?_
  show Wp _ _ _ _ _ (HF g 109 (va_up (va_up (wP P) 92 _) 108 (.inl (0, 96, pfx wdr 31)))) _
  refine W_dup d_134_541 rfl ?_
  refine W_bipush d_134_542 (v := 31) (by decide) ?_
  refine W_bipush d_134_544 (v := 32) (by decide) ?_
  refine W_iast d_134_546 ((HF_get (by decide)).trans (va_same _ _ _)) (vp_in_nI (n := 31) (by decide) (by decide)) ((HF_set (by decide)).trans (congrArg (HF g _) va_va)) ?_
  show Wp _ _ _ _ _ (HF g 109 (va_up (va_up (wP P) 92 _) 108 (.inl (0, 96, pfx wdr 32)))) _
  refine W_dup d_134_547 rfl ?_
  refine W_bipush d_134_548 (v := 32) (by decide) ?_
  refine W_bipush d_134_550 (v := 119) (by decide) ?_
  refine W_iast d_134_552 ((HF_get (by decide)).trans (va_same _ _ _)) (vp_in_nI (n := 32) (by decide) (by decide)) ((HF_set (by decide)).trans (congrArg (HF g _) va_va)) ?_
  show Wp _ _ _ _ _ (HF g 109 (va_up (va_up (wP P) 92 _) 108 (.inl (0, 96, pfx wdr 33)))) _
  refine W_dup d_134_553 rfl ?_
  refine W_bipush d_134_554 (v := 33) (by decide) ?_
  refine W_bipush d_134_556 (v := 97) (by decide) ?_
  refine W_iast d_134_558 ((HF_get (by decide)).trans (va_same _ _ _)) (vp_in_nI (n := 33) (by decide) (by decide)) ((HF_set (by decide)).trans (congrArg (HF g _) va_va)) ?_
  show Wp _ _ _ _ _ (HF g 109 (va_up (va_up (wP P) 92 _) 108 (.inl (0, 96, pfx wdr 34)))) _
  refine W_dup d_134_559 rfl ?_
  refine W_bipush d_134_560 (v := 34) (by decide) ?_
  refine W_bipush d_134_562 (v := 108) (by decide) ?_
  refine W_iast d_134_564 ((HF_get (by decide)).trans (va_same _ _ _)) (vp_in_nI (n := 34) (by decide) (by decide)) ((HF_set (by decide)).trans (congrArg (HF g _) va_va)) ?_
  show Wp _ _ _ _ _ (HF g 109 (va_up (va_up (wP P) 92 _) 108 (.inl (0, 96, pfx wdr 35)))) _
  refine W_dup d_134_565 rfl ?_
  refine W_bipush d_134_566 (v := 35) (by decide) ?_
  refine W_bipush d_134_568 (v := 108) (by decide) ?_
  refine W_iast d_134_570 ((HF_get (by decide)).trans (va_same _ _ _)) (vp_in_nI (n := 35) (by decide) (by decide)) ((HF_set (by decide)).trans (congrArg (HF g _) va_va)) ?_
  show Wp _ _ _ _ _ (HF g 109 (va_up (va_up (wP P) 92 _) 108 (.inl (0, 96, pfx wdr 36)))) _
  refine W_dup d_134_571 rfl ?_
  refine W_bipush d_134_572 (v := 36) (by decide) ?_
  refine W_bipush d_134_574 (v := 32) (by decide) ?_
  refine W_iast d_134_576 ((HF_get (by decide)).trans (va_same _ _ _)) (vp_in_nI (n := 36) (by decide) (by decide)) ((HF_set (by decide)).trans (congrArg (HF g _) va_va)) ?_
  show Wp _ _ _ _ _ (HF g 109 (va_up (va_up (wP P) 92 _) 108 (.inl (0, 96, pfx wdr 37)))) _
  refine W_dup d_134_577 rfl ?_
  refine W_bipush d_134_578 (v := 37) (by decide) ?_
  refine W_bipush d_134_580 (v := 32) (by decide) ?_
  refine W_iast d_134_582 ((HF_get (by decide)).trans (va_same _ _ _)) (vp_in_nI (n := 37) (by decide) (by decide)) ((HF_set (by decide)).trans (congrArg (HF g _) va_va)) ?_
  show Wp _ _ _ _ _ (HF g 109 (va_up (va_up (wP P) 92 _) 108 (.inl (0, 96, pfx wdr 38)))) _
  refine W_dup d_134_583 rfl ?_
  refine W_bipush d_134_584 (v := 38) (by decide) ?_
  refine W_bipush d_134_586 (v := 32) (by decide) ?_
  refine W_iast d_134_588 ((HF_get (by decide)).trans (va_same _ _ _)) (vp_in_nI (n := 38) (by decide) (by decide)) ((HF_set (by decide)).trans (congrArg (HF g _) va_va)) ?_
  show Wp _ _ _ _ _ (HF g 109 (va_up (va_up (wP P) 92 _) 108 (.inl (0, 96, pfx wdr 39)))) _
  refine W_dup d_134_589 rfl ?_
  refine W_bipush d_134_590 (v := 39) (by decide) ?_
  refine W_bipush d_134_592 (v := 32) (by decide) ?_
  refine W_iast d_134_594 ((HF_get (by decide)).trans (va_same _ _ _)) (vp_in_nI (n := 39) (by decide) (by decide)) ((HF_set (by decide)).trans (congrArg (HF g _) va_va)) ?_
  show Wp _ _ _ _ _ (HF g 109 (va_up (va_up (wP P) 92 _) 108 (.inl (0, 96, pfx wdr 40)))) _
  refine W_dup d_134_595 rfl ?_
  refine W_bipush d_134_596 (v := 40) (by decide) ?_
  refine W_bipush d_134_598 (v := 109) (by decide) ?_
  refine W_iast d_134_600 ((HF_get (by decide)).trans (va_same _ _ _)) (vp_in_nI (n := 40) (by decide) (by decide)) ((HF_set (by decide)).trans (congrArg (HF g _) va_va)) ?_
  show Wp _ _ _ _ _ (HF g 109 (va_up (va_up (wP P) 92 _) 108 (.inl (0, 96, pfx wdr 41)))) _
  refine W_dup d_134_601 rfl ?_
  refine W_bipush d_134_602 (v := 41) (by decide) ?_
  refine W_bipush d_134_604 (v := 111) (by decide) ?_
  refine W_iast d_134_606 ((HF_get (by decide)).trans (va_same _ _ _)) (vp_in_nI (n := 41) (by decide) (by decide)) ((HF_set (by decide)).trans (congrArg (HF g _) va_va)) ?_
  show Wp _ _ _ _ _ (HF g 109 (va_up (va_up (wP P) 92 _) 108 (.inl (0, 96, pfx wdr 42)))) _
  refine W_dup d_134_607 rfl ?_
  refine W_bipush d_134_608 (v := 42) (by decide) ?_
  refine W_bipush d_134_610 (v := 114) (by decide) ?_
  refine W_iast d_134_612 ((HF_get (by decide)).trans (va_same _ _ _)) (vp_in_nI (n := 42) (by decide) (by decide)) ((HF_set (by decide)).trans (congrArg (HF g _) va_va)) ?_
  show Wp _ _ _ _ _ (HF g 109 (va_up (va_up (wP P) 92 _) 108 (.inl (0, 96, pfx wdr 43)))) _
  refine W_dup d_134_613 rfl ?_
  refine W_bipush d_134_614 (v := 43) (by decide) ?_
  refine W_bipush d_134_616 (v := 101) (by decide) ?_
  refine W_iast d_134_618 ((HF_get (by decide)).trans (va_same _ _ _)) (vp_in_nI (n := 43) (by decide) (by decide)) ((HF_set (by decide)).trans (congrArg (HF g _) va_va)) ?_
  show Wp _ _ _ _ _ (HF g 109 (va_up (va_up (wP P) 92 _) 108 (.inl (0, 96, pfx wdr 44)))) _
  refine W_dup d_134_619 rfl ?_
  refine W_bipush d_134_620 (v := 44) (by decide) ?_
  refine W_bipush d_134_622 (v := 32) (by decide) ?_
  refine W_iast d_134_624 ((HF_get (by decide)).trans (va_same _ _ _)) (vp_in_nI (n := 44) (by decide) (by decide)) ((HF_set (by decide)).trans (congrArg (HF g _) va_va)) ?_
  show Wp _ _ _ _ _ (HF g 109 (va_up (va_up (wP P) 92 _) 108 (.inl (0, 96, pfx wdr 45)))) _
  refine W_dup d_134_625 rfl ?_
  refine W_bipush d_134_626 (v := 45) (by decide) ?_
  refine W_bipush d_134_628 (v := 32) (by decide) ?_
  refine W_iast d_134_630 ((HF_get (by decide)).trans (va_same _ _ _)) (vp_in_nI (n := 45) (by decide) (by decide)) ((HF_set (by decide)).trans (congrArg (HF g _) va_va)) ?_
  show Wp _ _ _ _ _ (HF g 109 (va_up (va_up (wP P) 92 _) 108 (.inl (0, 96, pfx wdr 46)))) _
  refine W_dup d_134_631 rfl ?_
  refine W_bipush d_134_632 (v := 46) (by decide) ?_
  refine W_bipush d_134_634 (v := 32) (by decide) ?_
  refine W_iast d_134_636 ((HF_get (by decide)).trans (va_same _ _ _)) (vp_in_nI (n := 46) (by decide) (by decide)) ((HF_set (by decide)).trans (congrArg (HF g _) va_va)) ?_
  show Wp _ _ _ _ _ (HF g 109 (va_up (va_up (wP P) 92 _) 108 (.inl (0, 96, pfx wdr 47)))) _
  refine W_dup d_134_637 rfl ?_
  refine W_bipush d_134_638 (v := 47) (by decide) ?_
  refine W_bipush d_134_640 (v := 32) (by decide) ?_
  refine W_iast d_134_642 ((HF_get (by decide)).trans (va_same _ _ _)) (vp_in_nI (n := 47) (by decide) (by decide)) ((HF_set (by decide)).trans (congrArg (HF g _) va_va)) ?_
  show Wp _ _ _ _ _ (HF g 109 (va_up (va_up (wP P) 92 _) 108 (.inl (0, 96, pfx wdr 48)))) _
  refine W_dup d_134_643 rfl ?_
  refine W_bipush d_134_644 (v := 48) (by decide) ?_
  refine W_bipush d_134_646 (v := 104) (by decide) ?_
  refine W_iast d_134_648 ((HF_get (by decide)).trans (va_same _ _ _)) (vp_in_nI (n := 48) (by decide) (by decide)) ((HF_set (by decide)).trans (congrArg (HF g _) va_va)) ?_
  show Wp _ _ _ _ _ (HF g 109 (va_up (va_up (wP P) 92 _) 108 (.inl (0, 96, pfx wdr 49)))) _
  refine W_dup d_134_649 rfl ?_
  refine W_bipush d_134_650 (v := 49) (by decide) ?_
  refine W_bipush d_134_652 (v := 101) (by decide) ?_
  refine W_iast d_134_654 ((HF_get (by decide)).trans (va_same _ _ _)) (vp_in_nI (n := 49) (by decide) (by decide)) ((HF_set (by decide)).trans (congrArg (HF g _) va_va)) ?_
  show Wp _ _ _ _ _ (HF g 109 (va_up (va_up (wP P) 92 _) 108 (.inl (0, 96, pfx wdr 50)))) _
  refine W_dup d_134_655 rfl ?_
  refine W_bipush d_134_656 (v := 50) (by decide) ?_
  refine W_bipush d_134_658 (v := 97) (by decide) ?_
  refine W_iast d_134_660 ((HF_get (by decide)).trans (va_same _ _ _)) (vp_in_nI (n := 50) (by decide) (by decide)) ((HF_set (by decide)).trans (congrArg (HF g _) va_va)) ?_
  show Wp _ _ _ _ _ (HF g 109 (va_up (va_up (wP P) 92 _) 108 (.inl (0, 96, pfx wdr 51)))) _
  refine W_dup d_134_661 rfl ?_
  refine W_bipush d_134_662 (v := 51) (by decide) ?_
  refine W_bipush d_134_664 (v := 112) (by decide) ?_
  refine W_iast d_134_666 ((HF_get (by decide)).trans (va_same _ _ _)) (vp_in_nI (n := 51) (by decide) (by decide)) ((HF_set (by decide)).trans (congrArg (HF g _) va_va)) ?_
  show Wp _ _ _ _ _ (HF g 109 (va_up (va_up (wP P) 92 _) 108 (.inl (0, 96, pfx wdr 52)))) _
  refine W_dup d_134_667 rfl ?_
  refine W_bipush d_134_668 (v := 52) (by decide) ?_
  refine W_bipush d_134_670 (v := 32) (by decide) ?_
  refine W_iast d_134_672 ((HF_get (by decide)).trans (va_same _ _ _)) (vp_in_nI (n := 52) (by decide) (by decide)) ((HF_set (by decide)).trans (congrArg (HF g _) va_va)) ?_
  show Wp _ _ _ _ _ (HF g 109 (va_up (va_up (wP P) 92 _) 108 (.inl (0, 96, pfx wdr 53)))) _
  refine W_dup d_134_673 rfl ?_
  refine W_bipush d_134_674 (v := 53) (by decide) ?_
  refine W_bipush d_134_676 (v := 32) (by decide) ?_
  refine W_iast d_134_678 ((HF_get (by decide)).trans (va_same _ _ _)) (vp_in_nI (n := 53) (by decide) (by decide)) ((HF_set (by decide)).trans (congrArg (HF g _) va_va)) ?_
  show Wp _ _ _ _ _ (HF g 109 (va_up (va_up (wP P) 92 _) 108 (.inl (0, 96, pfx wdr 54)))) _
  refine W_dup d_134_679 rfl ?_
  refine W_bipush d_134_680 (v := 54) (by decide) ?_
  refine W_bipush d_134_682 (v := 32) (by decide) ?_
  refine W_iast d_134_684 ((HF_get (by decide)).trans (va_same _ _ _)) (vp_in_nI (n := 54) (by decide) (by decide)) ((HF_set (by decide)).trans (congrArg (HF g _) va_va)) ?_
  show Wp _ _ _ _ _ (HF g 109 (va_up (va_up (wP P) 92 _) 108 (.inl (0, 96, pfx wdr 55)))) _
  refine W_dup d_134_685 rfl ?_
  refine W_bipush d_134_686 (v := 55) (by decide) ?_
  refine W_bipush d_134_688 (v := 32) (by decide) ?_
  refine W_iast d_134_690 ((HF_get (by decide)).trans (va_same _ _ _)) (vp_in_nI (n := 55) (by decide) (by decide)) ((HF_set (by decide)).trans (congrArg (HF g _) va_va)) ?_
  show Wp _ _ _ _ _ (HF g 109 (va_up (va_up (wP P) 92 _) 108 (.inl (0, 96, pfx wdr 56)))) _
  refine W_dup d_134_691 rfl ?_
  refine W_bipush d_134_692 (v := 56) (by decide) ?_
  refine W_bipush d_134_694 (v := 103) (by decide) ?_
  refine W_iast d_134_696 ((HF_get (by decide)).trans (va_same _ _ _)) (vp_in_nI (n := 56) (by decide) (by decide)) ((HF_set (by decide)).trans (congrArg (HF g _) va_va)) ?_
  show Wp _ _ _ _ _ (HF g 109 (va_up (va_up (wP P) 92 _) 108 (.inl (0, 96, pfx wdr 57)))) _
  refine W_dup d_134_697 rfl ?_
  refine W_bipush d_134_698 (v := 57) (by decide) ?_
  refine W_bipush d_134_700 (v := 97) (by decide) ?_
  refine W_iast d_134_702 ((HF_get (by decide)).trans (va_same _ _ _)) (vp_in_nI (n := 57) (by decide) (by decide)) ((HF_set (by decide)).trans (congrArg (HF g _) va_va)) ?_
  show Wp _ _ _ _ _ (HF g 109 (va_up (va_up (wP P) 92 _) 108 (.inl (0, 96, pfx wdr 58)))) _
  refine W_dup d_134_703 rfl ?_
  refine W_bipush d_134_704 (v := 58) (by decide) ?_
  refine W_bipush d_134_706 (v := 116) (by decide) ?_
  refine W_iast d_134_708 ((HF_get (by decide)).trans (va_same _ _ _)) (vp_in_nI (n := 58) (by decide) (by decide)) ((HF_set (by decide)).trans (congrArg (HF g _) va_va)) ?_
  show Wp _ _ _ _ _ (HF g 109 (va_up (va_up (wP P) 92 _) 108 (.inl (0, 96, pfx wdr 59)))) _
  refine W_dup d_134_709 rfl ?_
  refine W_bipush d_134_710 (v := 59) (by decide) ?_
  refine W_bipush d_134_712 (v := 101) (by decide) ?_
  refine W_iast d_134_714 ((HF_get (by decide)).trans (va_same _ _ _)) (vp_in_nI (n := 59) (by decide) (by decide)) ((HF_set (by decide)).trans (congrArg (HF g _) va_va)) ?_
  show Wp _ _ _ _ _ (HF g 109 (va_up (va_up (wP P) 92 _) 108 (.inl (0, 96, pfx wdr 60)))) _
  refine W_dup d_134_715 rfl ?_
  refine W_bipush d_134_716 (v := 60) (by decide) ?_
  refine W_bipush d_134_718 (v := 32) (by decide) ?_
  refine W_iast d_134_720 ((HF_get (by decide)).trans (va_same _ _ _)) (vp_in_nI (n := 60) (by decide) (by decide)) ((HF_set (by decide)).trans (congrArg (HF g _) va_va)) ?_
  show Wp _ _ _ _ _ (HF g 109 (va_up (va_up (wP P) 92 _) 108 (.inl (0, 96, pfx wdr 61)))) _
  refine W_dup d_134_721 rfl ?_
  refine W_bipush d_134_722 (v := 61) (by decide) ?_
  refine W_bipush d_134_724 (v := 32) (by decide) ?_
  refine W_iast d_134_726 ((HF_get (by decide)).trans (va_same _ _ _)) (vp_in_nI (n := 61) (by decide) (by decide)) ((HF_set (by decide)).trans (congrArg (HF g _) va_va)) ?_
  show Wp _ _ _ _ _ (HF g 109 (va_up (va_up (wP P) 92 _) 108 (.inl (0, 96, pfx wdr 62)))) _
  refine W_dup d_134_727 rfl ?_
  refine W_bipush d_134_728 (v := 62) (by decide) ?_
  refine W_bipush d_134_730 (v := 32) (by decide) ?_
  refine W_iast d_134_732 ((HF_get (by decide)).trans (va_same _ _ _)) (vp_in_nI (n := 62) (by decide) (by decide)) ((HF_set (by decide)).trans (congrArg (HF g _) va_va)) ?_
  show Wp _ _ _ _ _ (HF g 109 (va_up (va_up (wP P) 92 _) 108 (.inl (0, 96, pfx wdr 63)))) _
  refine W_dup d_134_733 rfl ?_
  refine W_bipush d_134_734 (v := 63) (by decide) ?_
  refine W_bipush d_134_736 (v := 32) (by decide) ?_
  refine W_iast d_134_738 ((HF_get (by decide)).trans (va_same _ _ _)) (vp_in_nI (n := 63) (by decide) (by decide)) ((HF_set (by decide)).trans (congrArg (HF g _) va_va)) ?_
  show Wp _ _ _ _ _ (HF g 109 (va_up (va_up (wP P) 92 _) 108 (.inl (0, 96, pfx wdr 64)))) _
  refine W_dup d_134_739 rfl ?_
  refine W_bipush d_134_740 (v := 64) (by decide) ?_
  refine W_bipush d_134_742 (v := 112) (by decide) ?_
  refine W_iast d_134_744 ((HF_get (by decide)).trans (va_same _ _ _)) (vp_in_nI (n := 64) (by decide) (by decide)) ((HF_set (by decide)).trans (congrArg (HF g _) va_va)) ?_
  show Wp _ _ _ _ _ (HF g 109 (va_up (va_up (wP P) 92 _) 108 (.inl (0, 96, pfx wdr 65)))) _
  refine W_dup d_134_745 rfl ?_
  refine W_bipush d_134_746 (v := 65) (by decide) ?_
  refine W_bipush d_134_748 (v := 97) (by decide) ?_
  refine W_iast d_134_750 ((HF_get (by decide)).trans (va_same _ _ _)) (vp_in_nI (n := 65) (by decide) (by decide)) ((HF_set (by decide)).trans (congrArg (HF g _) va_va)) ?_
  show Wp _ _ _ _ _ (HF g 109 (va_up (va_up (wP P) 92 _) 108 (.inl (0, 96, pfx wdr 66)))) _
  refine W_dup d_134_751 rfl ?_
  refine W_bipush d_134_752 (v := 66) (by decide) ?_
  refine W_bipush d_134_754 (v := 115) (by decide) ?_
  refine W_iast d_134_756 ((HF_get (by decide)).trans (va_same _ _ _)) (vp_in_nI (n := 66) (by decide) (by decide)) ((HF_set (by decide)).trans (congrArg (HF g _) va_va)) ?_
  show Wp _ _ _ _ _ (HF g 109 (va_up (va_up (wP P) 92 _) 108 (.inl (0, 96, pfx wdr 67)))) _
  refine W_dup d_134_757 rfl ?_
  refine W_bipush d_134_758 (v := 67) (by decide) ?_
  refine W_bipush d_134_760 (v := 115) (by decide) ?_
  refine W_iast d_134_762 ((HF_get (by decide)).trans (va_same _ _ _)) (vp_in_nI (n := 67) (by decide) (by decide)) ((HF_set (by decide)).trans (congrArg (HF g _) va_va)) ?_
  show Wp _ _ _ _ _ (HF g 109 (va_up (va_up (wP P) 92 _) 108 (.inl (0, 96, pfx wdr 68)))) _
  refine W_dup d_134_763 rfl ?_
  refine W_bipush d_134_764 (v := 68) (by decide) ?_
  refine W_bipush d_134_766 (v := 101) (by decide) ?_
  refine W_iast d_134_768 ((HF_get (by decide)).trans (va_same _ _ _)) (vp_in_nI (n := 68) (by decide) (by decide)) ((HF_set (by decide)).trans (congrArg (HF g _) va_va)) ?_
  show Wp _ _ _ _ _ (HF g 109 (va_up (va_up (wP P) 92 _) 108 (.inl (0, 96, pfx wdr 69)))) _
  refine W_dup d_134_769 rfl ?_
  refine W_bipush d_134_770 (v := 69) (by decide) ?_
  refine W_bipush d_134_772 (v := 115) (by decide) ?_
  refine W_iast d_134_774 ((HF_get (by decide)).trans (va_same _ _ _)) (vp_in_nI (n := 69) (by decide) (by decide)) ((HF_set (by decide)).trans (congrArg (HF g _) va_va)) ?_
  show Wp _ _ _ _ _ (HF g 109 (va_up (va_up (wP P) 92 _) 108 (.inl (0, 96, pfx wdr 70)))) _
  refine W_dup d_134_775 rfl ?_
  refine W_bipush d_134_776 (v := 70) (by decide) ?_
  refine W_bipush d_134_778 (v := 32) (by decide) ?_
  refine W_iast d_134_780 ((HF_get (by decide)).trans (va_same _ _ _)) (vp_in_nI (n := 70) (by decide) (by decide)) ((HF_set (by decide)).trans (congrArg (HF g _) va_va)) ?_
  show Wp _ _ _ _ _ (HF g 109 (va_up (va_up (wP P) 92 _) 108 (.inl (0, 96, pfx wdr 71)))) _
  refine W_dup d_134_781 rfl ?_
  refine W_bipush d_134_782 (v := 71) (by decide) ?_
  refine W_bipush d_134_784 (v := 32) (by decide) ?_
  refine W_iast d_134_786 ((HF_get (by decide)).trans (va_same _ _ _)) (vp_in_nI (n := 71) (by decide) (by decide)) ((HF_set (by decide)).trans (congrArg (HF g _) va_va)) ?_
  show Wp _ _ _ _ _ (HF g 109 (va_up (va_up (wP P) 92 _) 108 (.inl (0, 96, pfx wdr 72)))) _
  refine W_dup d_134_787 rfl ?_
  refine W_bipush d_134_788 (v := 72) (by decide) ?_
  refine W_bipush d_134_790 (v := 111) (by decide) ?_
  refine W_iast d_134_792 ((HF_get (by decide)).trans (va_same _ _ _)) (vp_in_nI (n := 72) (by decide) (by decide)) ((HF_set (by decide)).trans (congrArg (HF g _) va_va)) ?_
  show Wp _ _ _ _ _ (HF g 109 (va_up (va_up (wP P) 92 _) 108 (.inl (0, 96, pfx wdr 73)))) _
  refine W_dup d_134_793 rfl ?_
  refine W_bipush d_134_794 (v := 73) (by decide) ?_
  refine W_bipush d_134_796 (v := 114) (by decide) ?_
  refine W_iast d_134_798 ((HF_get (by decide)).trans (va_same _ _ _)) (vp_in_nI (n := 73) (by decide) (by decide)) ((HF_set (by decide)).trans (congrArg (HF g _) va_va)) ?_
  show Wp _ _ _ _ _ (HF g 109 (va_up (va_up (wP P) 92 _) 108 (.inl (0, 96, pfx wdr 74)))) _
  refine W_dup d_134_799 rfl ?_
  refine W_bipush d_134_800 (v := 74) (by decide) ?_
  refine W_bipush d_134_802 (v := 32) (by decide) ?_
  refine W_iast d_134_804 ((HF_get (by decide)).trans (va_same _ _ _)) (vp_in_nI (n := 74) (by decide) (by decide)) ((HF_set (by decide)).trans (congrArg (HF g _) va_va)) ?_
  show Wp _ _ _ _ _ (HF g 109 (va_up (va_up (wP P) 92 _) 108 (.inl (0, 96, pfx wdr 75)))) _
  refine W_dup d_134_805 rfl ?_
  refine W_bipush d_134_806 (v := 75) (by decide) ?_
  refine W_bipush d_134_808 (v := 32) (by decide) ?_
  refine W_iast d_134_810 ((HF_get (by decide)).trans (va_same _ _ _)) (vp_in_nI (n := 75) (by decide) (by decide)) ((HF_set (by decide)).trans (congrArg (HF g _) va_va)) ?_
  show Wp _ _ _ _ _ (HF g 109 (va_up (va_up (wP P) 92 _) 108 (.inl (0, 96, pfx wdr 76)))) _
  refine W_dup d_134_811 rfl ?_
  refine W_bipush d_134_812 (v := 76) (by decide) ?_
  refine W_bipush d_134_814 (v := 32) (by decide) ?_
  refine W_iast d_134_816 ((HF_get (by decide)).trans (va_same _ _ _)) (vp_in_nI (n := 76) (by decide) (by decide)) ((HF_set (by decide)).trans (congrArg (HF g _) va_va)) ?_
  show Wp _ _ _ _ _ (HF g 109 (va_up (va_up (wP P) 92 _) 108 (.inl (0, 96, pfx wdr 77)))) _
  refine W_dup d_134_817 rfl ?_
  refine W_bipush d_134_818 (v := 77) (by decide) ?_
  refine W_bipush d_134_820 (v := 32) (by decide) ?_
  refine W_iast d_134_822 ((HF_get (by decide)).trans (va_same _ _ _)) (vp_in_nI (n := 77) (by decide) (by decide)) ((HF_set (by decide)).trans (congrArg (HF g _) va_va)) ?_
  show Wp _ _ _ _ _ (HF g 109 (va_up (va_up (wP P) 92 _) 108 (.inl (0, 96, pfx wdr 78)))) _
  refine W_dup d_134_823 rfl ?_
  refine W_bipush d_134_824 (v := 78) (by decide) ?_
  refine W_bipush d_134_826 (v := 32) (by decide) ?_
  refine W_iast d_134_828 ((HF_get (by decide)).trans (va_same _ _ _)) (vp_in_nI (n := 78) (by decide) (by decide)) ((HF_set (by decide)).trans (congrArg (HF g _) va_va)) ?_
  show Wp _ _ _ _ _ (HF g 109 (va_up (va_up (wP P) 92 _) 108 (.inl (0, 96, pfx wdr 79)))) _
  refine W_dup d_134_829 rfl ?_
  refine W_bipush d_134_830 (v := 79) (by decide) ?_
  refine W_bipush d_134_832 (v := 32) (by decide) ?_
  refine W_iast d_134_834 ((HF_get (by decide)).trans (va_same _ _ _)) (vp_in_nI (n := 79) (by decide) (by decide)) ((HF_set (by decide)).trans (congrArg (HF g _) va_va)) ?_
  show Wp _ _ _ _ _ (HF g 109 (va_up (va_up (wP P) 92 _) 108 (.inl (0, 96, pfx wdr 80)))) _
  refine W_dup d_134_835 rfl ?_
  refine W_bipush d_134_836 (v := 80) (by decide) ?_
  refine W_bipush d_134_838 (v := 97) (by decide) ?_
  refine W_iast d_134_840 ((HF_get (by decide)).trans (va_same _ _ _)) (vp_in_nI (n := 80) (by decide) (by decide)) ((HF_set (by decide)).trans (congrArg (HF g _) va_va)) ?_
  show Wp _ _ _ _ _ (HF g 109 (va_up (va_up (wP P) 92 _) 108 (.inl (0, 96, pfx wdr 81)))) _
  refine W_dup d_134_841 rfl ?_
  refine W_bipush d_134_842 (v := 81) (by decide) ?_
  refine W_bipush d_134_844 (v := 110) (by decide) ?_
  refine W_iast d_134_846 ((HF_get (by decide)).trans (va_same _ _ _)) (vp_in_nI (n := 81) (by decide) (by decide)) ((HF_set (by decide)).trans (congrArg (HF g _) va_va)) ?_
  show Wp _ _ _ _ _ (HF g 109 (va_up (va_up (wP P) 92 _) 108 (.inl (0, 96, pfx wdr 82)))) _
  refine W_dup d_134_847 rfl ?_
  refine W_bipush d_134_848 (v := 82) (by decide) ?_
  refine W_bipush d_134_850 (v := 100) (by decide) ?_
  refine W_iast d_134_852 ((HF_get (by decide)).trans (va_same _ _ _)) (vp_in_nI (n := 82) (by decide) (by decide)) ((HF_set (by decide)).trans (congrArg (HF g _) va_va)) ?_
  show Wp _ _ _ _ _ (HF g 109 (va_up (va_up (wP P) 92 _) 108 (.inl (0, 96, pfx wdr 83)))) _
  refine W_dup d_134_853 rfl ?_
  refine W_bipush d_134_854 (v := 83) (by decide) ?_
  refine W_bipush d_134_856 (v := 32) (by decide) ?_
  refine W_iast d_134_858 ((HF_get (by decide)).trans (va_same _ _ _)) (vp_in_nI (n := 83) (by decide) (by decide)) ((HF_set (by decide)).trans (congrArg (HF g _) va_va)) ?_
  show Wp _ _ _ _ _ (HF g 109 (va_up (va_up (wP P) 92 _) 108 (.inl (0, 96, pfx wdr 84)))) _
  refine W_dup d_134_859 rfl ?_
  refine W_bipush d_134_860 (v := 84) (by decide) ?_
  refine W_bipush d_134_862 (v := 32) (by decide) ?_
  refine W_iast d_134_864 ((HF_get (by decide)).trans (va_same _ _ _)) (vp_in_nI (n := 84) (by decide) (by decide)) ((HF_set (by decide)).trans (congrArg (HF g _) va_va)) ?_
  show Wp _ _ _ _ _ (HF g 109 (va_up (va_up (wP P) 92 _) 108 (.inl (0, 96, pfx wdr 85)))) _
  refine W_dup d_134_865 rfl ?_
  refine W_bipush d_134_866 (v := 85) (by decide) ?_
  refine W_bipush d_134_868 (v := 32) (by decide) ?_
  refine W_iast d_134_870 ((HF_get (by decide)).trans (va_same _ _ _)) (vp_in_nI (n := 85) (by decide) (by decide)) ((HF_set (by decide)).trans (congrArg (HF g _) va_va)) ?_
  show Wp _ _ _ _ _ (HF g 109 (va_up (va_up (wP P) 92 _) 108 (.inl (0, 96, pfx wdr 86)))) _
  refine W_dup d_134_871 rfl ?_
  refine W_bipush d_134_872 (v := 86) (by decide) ?_
  refine W_bipush d_134_874 (v := 32) (by decide) ?_
  refine W_iast d_134_876 ((HF_get (by decide)).trans (va_same _ _ _)) (vp_in_nI (n := 86) (by decide) (by decide)) ((HF_set (by decide)).trans (congrArg (HF g _) va_va)) ?_
  show Wp _ _ _ _ _ (HF g 109 (va_up (va_up (wP P) 92 _) 108 (.inl (0, 96, pfx wdr 87)))) _
  refine W_dup d_134_877 rfl ?_
  refine W_bipush d_134_878 (v := 87) (by decide) ?_
  refine W_bipush d_134_880 (v := 32) (by decide) ?_
  refine W_iast d_134_882 ((HF_get (by decide)).trans (va_same _ _ _)) (vp_in_nI (n := 87) (by decide) (by decide)) ((HF_set (by decide)).trans (congrArg (HF g _) va_va)) ?_
  show Wp _ _ _ _ _ (HF g 109 (va_up (va_up (wP P) 92 _) 108 (.inl (0, 96, pfx wdr 88)))) _
  refine W_dup d_134_883 rfl ?_
  refine W_bipush d_134_884 (v := 88) (by decide) ?_
  refine W_bipush d_134_886 (v := 110) (by decide) ?_
  refine W_iast d_134_888 ((HF_get (by decide)).trans (va_same _ _ _)) (vp_in_nI (n := 88) (by decide) (by decide)) ((HF_set (by decide)).trans (congrArg (HF g _) va_va)) ?_
  show Wp _ _ _ _ _ (HF g 109 (va_up (va_up (wP P) 92 _) 108 (.inl (0, 96, pfx wdr 89)))) _
  refine W_dup d_134_889 rfl ?_
  refine W_bipush d_134_890 (v := 89) (by decide) ?_
  refine W_bipush d_134_892 (v := 111) (by decide) ?_
  refine W_iast d_134_894 ((HF_get (by decide)).trans (va_same _ _ _)) (vp_in_nI (n := 89) (by decide) (by decide)) ((HF_set (by decide)).trans (congrArg (HF g _) va_va)) ?_
  show Wp _ _ _ _ _ (HF g 109 (va_up (va_up (wP P) 92 _) 108 (.inl (0, 96, pfx wdr 90)))) _
  refine W_dup d_134_895 rfl ?_
  refine W_bipush d_134_896 (v := 90) (by decide) ?_
  refine W_bipush d_134_898 (v := 116) (by decide) ?_
  refine W_iast d_134_900 ((HF_get (by decide)).trans (va_same _ _ _)) (vp_in_nI (n := 90) (by decide) (by decide)) ((HF_set (by decide)).trans (congrArg (HF g _) va_va)) ?_
  show Wp _ _ _ _ _ (HF g 109 (va_up (va_up (wP P) 92 _) 108 (.inl (0, 96, pfx wdr 91)))) _
  refine W_dup d_134_901 rfl ?_
  refine W_bipush d_134_902 (v := 91) (by decide) ?_
  refine W_bipush d_134_904 (v := 32) (by decide) ?_
  refine W_iast d_134_906 ((HF_get (by decide)).trans (va_same _ _ _)) (vp_in_nI (n := 91) (by decide) (by decide)) ((HF_set (by decide)).trans (congrArg (HF g _) va_va)) ?_
  show Wp _ _ _ _ _ (HF g 109 (va_up (va_up (wP P) 92 _) 108 (.inl (0, 96, pfx wdr 92)))) _
  refine W_dup d_134_907 rfl ?_
  refine W_bipush d_134_908 (v := 92) (by decide) ?_
  refine W_bipush d_134_910 (v := 32) (by decide) ?_
  refine W_iast d_134_912 ((HF_get (by decide)).trans (va_same _ _ _)) (vp_in_nI (n := 92) (by decide) (by decide)) ((HF_set (by decide)).trans (congrArg (HF g _) va_va)) ?_
  show Wp _ _ _ _ _ (HF g 109 (va_up (va_up (wP P) 92 _) 108 (.inl (0, 96, pfx wdr 93)))) _
  refine W_dup d_134_913 rfl ?_
  refine W_bipush d_134_914 (v := 93) (by decide) ?_
  refine W_bipush d_134_916 (v := 32) (by decide) ?_
  refine W_iast d_134_918 ((HF_get (by decide)).trans (va_same _ _ _)) (vp_in_nI (n := 93) (by decide) (by decide)) ((HF_set (by decide)).trans (congrArg (HF g _) va_va)) ?_
  show Wp _ _ _ _ _ (HF g 109 (va_up (va_up (wP P) 92 _) 108 (.inl (0, 96, pfx wdr 94)))) _
  refine W_dup d_134_919 rfl ?_
  refine W_bipush d_134_920 (v := 94) (by decide) ?_
  refine W_bipush d_134_922 (v := 32) (by decide) ?_
  refine W_iast d_134_924 ((HF_get (by decide)).trans (va_same _ _ _)) (vp_in_nI (n := 94) (by decide) (by decide)) ((HF_set (by decide)).trans (congrArg (HF g _) va_va)) ?_
  show Wp _ _ _ _ _ (HF g 109 (va_up (va_up (wP P) 92 _) 108 (.inl (0, 96, pfx wdr 95)))) _
  refine W_dup d_134_925 rfl ?_
  refine W_bipush d_134_926 (v := 95) (by decide) ?_
  refine W_bipush d_134_928 (v := 32) (by decide) ?_
  refine W_iast d_134_930 ((HF_get (by decide)).trans (va_same _ _ _)) (vp_in_nI (n := 95) (by decide) (by decide)) ((HF_set (by decide)).trans (congrArg (HF g _) va_va)) ?_
  show Wp _ _ _ _ _ (HF g 109 (va_up (va_up (wP P) 92 _) 108 (.inl (0, 96, pfx wdr 96)))) _
  rw [show ∀ o, va_up (va_up (wP P) 92 o) 108 (.inl (0, 96, pfx wdr 96)) = va_up (wP P) 92 o from fun o => ov_end ((va_oth _ _ (by decide)).trans rfl)]
  refine W_putf d_134_931 o_134 k_7_59 ((HF_get (by decide)).trans (va_same _ _ _)) (Nat.le_of_ble_eq_true rfl) (mput_ref (by decide) (by decide +kernel)) ((HF_set (by decide)).trans (congrArg (HF g _) va_va)) ?_
  refine W_aload_n d_134_934 rfl (by decide) ?_
  refine W_sipush d_134_935 (v := 200) (by decide) ?_
  refine W_newI d_134_938 (by decide) (by decide) (show 109 < 1000 by decide) (HF_push ((va_oth _ _ (by decide)).trans rfl)) ?_
  show Wp _ _ _ _ (.ref 109 :: _) (HF g 110 (va_up (wP P) 92 _)) _
  refine W_putf d_134_940 o_134 k_7_62 ((HF_get (by decide)).trans (va_same _ _ _)) (Nat.le_of_ble_eq_true rfl) (mput_ref (by decide) (by decide +kernel)) ((HF_set (by decide)).trans (congrArg (HF g _) va_va)) ?_
  refine W_aload_n d_134_943 rfl (by decide) ?_
  refine W_sipush d_134_944 (v := 200) (by decide) ?_
  refine W_newI d_134_947 (by decide) (by decide) (show 110 < 1000 by decide) (HF_push ((va_oth _ _ (by decide)).trans rfl)) ?_
  show Wp _ _ _ _ (.ref 110 :: _) (HF g 111 (va_up (wP P) 92 _)) _
  refine W_putf d_134_949 o_134 k_7_65 ((HF_get (by decide)).trans (va_same _ _ _)) (Nat.le_of_ble_eq_true rfl) (mput_ref (by decide) (by decide +kernel)) ((HF_set (by decide)).trans (congrArg (HF g _) va_va)) ?_
  refine W_aload_n d_134_952 rfl (by decide) ?_
  refine W_bipush d_134_953 (v := 6) (by decide) ?_
  refine W_newI d_134_955 (by decide) (by decide) (show 111 < 1000 by decide) (HF_push ((va_oth _ _ (by decide)).trans rfl)) ?_
  show Wp _ _ _ _ (.ref 111 :: _) (HF g 112 (va_up (wP P) 92 _)) _
  refine W_putf d_134_957 o_134 k_7_68 ((HF_get (by decide)).trans (va_same _ _ _)) (Nat.le_of_ble_eq_true rfl) (mput_ref (by decide) (by decide +kernel)) ((HF_set (by decide)).trans (congrArg (HF g _) va_va)) ?_
  refine W_aload_n d_134_960 rfl (by decide) ?_
  refine W_bipush d_134_961 (v := 12) (by decide) ?_
  refine W_newI d_134_963 (by decide) (by decide) (show 112 < 1000 by decide) (HF_push ((va_oth _ _ (by decide)).trans rfl)) ?_
  show Wp _ _ _ _ (.ref 112 :: _) (HF g 113 (va_up (wP P) 92 _)) _
  refine W_putf d_134_965 o_134 k_7_71 ((HF_get (by decide)).trans (va_same _ _ _)) (Nat.le_of_ble_eq_true rfl) (mput_ref (by decide) (by decide +kernel)) ((HF_set (by decide)).trans (congrArg (HF g _) va_va)) ?_
  refine W_aload_n d_134_968 rfl (by decide) ?_
  refine W_bipush d_134_969 (v := 12) (by decide) ?_
  refine W_newI d_134_971 (by decide) (by decide) (show 113 < 1000 by decide) (HF_push ((va_oth _ _ (by decide)).trans rfl)) ?_
  show Wp _ _ _ _ (.ref 113 :: _) (HF g 114 (va_up (wP P) 92 _)) _
  refine W_putf d_134_973 o_134 k_7_74 ((HF_get (by decide)).trans (va_same _ _ _)) (Nat.le_of_ble_eq_true rfl) (mput_ref (by decide) (by decide +kernel)) ((HF_set (by decide)).trans (congrArg (HF g _) va_va)) ?_
  refine W_aload_n d_134_976 rfl (by decide) ?_
  refine W_bipush d_134_977 (v := 66) (by decide) ?_
  refine W_newI d_134_979 (by decide) (by decide) (show 114 < 1000 by decide) (HF_push ((va_oth _ _ (by decide)).trans rfl)) ?_
  show Wp _ _ _ _ (.ref 114 :: _) (HF g 115 (va_up (wP P) 92 _)) _
  refine W_putf d_134_981 o_134 k_7_77 ((HF_get (by decide)).trans (va_same _ _ _)) (Nat.le_of_ble_eq_true rfl) (mput_ref (by decide) (by decide +kernel)) ((HF_set (by decide)).trans (congrArg (HF g _) va_va)) ?_
  refine W_aload_n d_134_984 rfl (by decide) ?_
  refine W_bipush d_134_985 (v := 12) (by decide) ?_
  refine W_newI d_134_987 (by decide) (by decide) (show 115 < 1000 by decide) (HF_push ((va_oth _ _ (by decide)).trans rfl)) ?_
  show Wp _ _ _ _ (.ref 115 :: _) (HF g 116 (va_up (wP P) 92 _)) _
  refine W_putf d_134_989 o_134 k_7_80 ((HF_get (by decide)).trans (va_same _ _ _)) (Nat.le_of_ble_eq_true rfl) (mput_ref (by decide) (by decide +kernel)) ((HF_set (by decide)).trans (congrArg (HF g _) va_va)) ?_
  refine W_aload_n d_134_992 rfl (by decide) ?_
  refine W_bipush d_134_993 (v := 6) (by decide) ?_
  refine W_newI d_134_995 (by decide) (by decide) (show 116 < 1000 by decide) (HF_push ((va_oth _ _ (by decide)).trans rfl)) ?_
  show Wp _ _ _ _ (.ref 116 :: _) (HF g 117 (va_up (wP P) 92 _)) _
  refine W_putf d_134_997 o_134 k_7_83 ((HF_get (by decide)).trans (va_same _ _ _)) (Nat.le_of_ble_eq_true rfl) (mput_ref (by decide) (by decide +kernel)) ((HF_set (by decide)).trans (congrArg (HF g _) va_va)) ?_
  refine W_iconst d_134_1000 (v := 0) (by decide) ?_
  refine W_istore_n d_134_1001 rfl ?_
  show Wp _ 134 1002 _ _ (HF g 117 (va_up (wP P) 92 (.inr (.inr (7, mdF z_S))))) _
  rw [show va_up (wP P) 92 (.inr (.inr (7, mdF z_S))) = wP P from ov_end rfl, HF_117]
  exact kk
theorem lw_14 {i : Nat} {f : Nat → Int32} (hi : i < 36) : va_up z_Y 6 f 14 i = lwt i := (congrFun (va_oth _ _ (by decide)) i).trans ((pfx_v lwt 36 i).trans (if_pos hi))
theorem lp_134 (kk : Wp d 134 1026 [.ref 92, .int (nI 36)] [] (117, H3 g P (mm (va_up z_Y 6 (pfx lwt 36)) z_S)) Q) : ∀ (k i : Nat), i + k = 36 → Wp d 134 1002 [.ref 92, .int (nI i)] [] (117, H3 g P (mm (va_up z_Y 6 (pfx lwt i)) z_S)) Q := by
  intro k
  induction k with
  | zero =>
    intro i hi
    have ei : i = 36 := by omega
    refine W_iload_n d_134_1002 rfl ?_
    refine W_bipush d_134_1003 (v := 36) (by decide) ?_
    refine W_icmp_ge (tgt := 1026) d_134_1005 (by decide) (fun _ => ?_) (fun q => absurd (nI_le (a := 36) (b := i) (by omega) (by omega)) q)
    subst ei
    exact kk
  | succ k ih =>
    intro i hi
    refine W_iload_n d_134_1002 rfl ?_
    refine W_bipush d_134_1003 (v := 36) (by decide) ?_
    refine W_icmp_ge (tgt := 1026) d_134_1005 (by decide) (fun q => absurd q (nI_ge (a := i) (b := 36) (by omega) (by omega))) (fun _ => ?_)
    refine W_aload_n d_134_1008 rfl (by decide) ?_
    refine W_getf d_134_1009 o_134 k_7_32 rfl rfl ?_
    refine W_iload_n d_134_1012 rfl ?_
    refine W_aload_n d_134_1013 rfl (by decide) ?_
    refine W_getf d_134_1014 o_134 k_7_56 rfl rfl ?_
    refine W_iload_n d_134_1017 rfl ?_
    refine W_mld (a := 14) d_134_1018 rfl (by decide) (n := 36) rfl (vp_in_nI (by omega) (by decide)) ((congrArg _ (nI_clamp (by omega))).trans (lw_14 (by omega))) ?_
    refine W_mst (a := 6) d_134_1019 rfl (by decide) (n := 160) rfl (vp_in_nI (by omega) (by decide)) (nI_clamp (by omega)) ?_
    rw [u2_va]
    refine W_iinc (v := 1) d_134_1020 rfl (by decide) rfl ?_
    rw [show ((nI i + 1 : Int32)) = nI (i + 1) from nI_add i 1]
    refine W_goto (tgt := 1002) d_134_1023 (by decide) ?_
    exact ih (i + 1) (by omega)
theorem x_134 (hd : 6 ≤ d) : Wp d 134 0 (ment 134 [.ref 92]) [] (HF g 93 (va_up (wP P) 92 (.inr (.inr (7, Dft 7))))) (fun v M => v = none ∧ ∃ Y' S', M = (117, H3 g P (mm Y' S')) ∧ FX 0 WX (va_up z_Y 6 (pfx lwt 36)) (va_up z_S 11 36) Y' S' ∧ S' 11 = 0 ∧ S' 14 = nI (0 + 1) ∧ Y' 8 (4 * 0) = 0 ∧ Y' 8 (4 * 0 + 1) = nI ([2] : List Int32).length ∧ Y' 8 (4 * 0 + 2) = nI (([2] : List Int32).length + ([3, 10001, -6] : List Int32).length) ∧ Y' 8 (4 * 0 + 3) = nI (([2] : List Int32).length + ([3, 10001, -6] : List Int32).length + ([1] : List Int32).length) ∧ OC (Y' 7) (200 * 0) (([2] : List Int32).map cdm ++ ([3, 10001, -6] : List Int32).map cdm ++ ([1] : List Int32).map cdm)) := by
  have hB : BH tm0 36 0 (va_up z_Y 6 (pfx lwt 36)) (va_up z_S 11 36) := ⟨(va_same _ _ _).trans (funext fun k => pfx_v lwt 36 k), (va_oth _ _ (by decide)).trans wdr_96, va_same _ _ _, rfl, by decide, by decide, tm0_by⟩
  have key : Wp d 134 1026 [.ref 92, .int (nI 36)] [] (117, H3 g P (mm (va_up z_Y 6 (pfx lwt 36)) z_S)) (fun v M => v = none ∧ ∃ Y' S', M = (117, H3 g P (mm Y' S')) ∧ FX 0 WX (va_up z_Y 6 (pfx lwt 36)) (va_up z_S 11 36) Y' S' ∧ S' 11 = 0 ∧ S' 14 = nI (0 + 1) ∧ Y' 8 (4 * 0) = 0 ∧ Y' 8 (4 * 0 + 1) = nI ([2] : List Int32).length ∧ Y' 8 (4 * 0 + 2) = nI (([2] : List Int32).length + ([3, 10001, -6] : List Int32).length) ∧ Y' 8 (4 * 0 + 3) = nI (([2] : List Int32).length + ([3, 10001, -6] : List Int32).length + ([1] : List Int32).length) ∧ OC (Y' 7) (200 * 0) (([2] : List Int32).map cdm ++ ([3, 10001, -6] : List Int32).map cdm ++ ([1] : List Int32).map cdm)) := by
    refine W_aload_n d_134_1026 rfl (by decide) ?_
    refine W_bipush d_134_1027 (v := 36) (by decide) ?_
    refine W_putf d_134_1029 o_134 k_7_86 rfl (Nat.le_of_ble_eq_true rfl) rfl mm_s11 ?_
    refine W_aload_n d_134_1032 rfl (by decide) ?_
    refine W_callVQ d_134_1033 o_134 (Or.inl k_7_89) (by omega) (x_154_3 (F := 1000) (f := tm0) (sz := 36) (tc := 0) hB (by omega) (Nat.le_refl _) tm0_0 tm0_1 tm0_2 tm0_e) rfl (mrecv_of rfl o_154.symm) rfl (Nat.le_of_ble_eq_true rfl) ?_
    rintro _ _ ⟨rfl, Y', S', rfl, hX⟩
    refine W_pop d_134_1036 rfl ?_
    refine W_ret d_134_1037 rt_134 ?_
    exact ⟨rfl, Y', S', rfl, hX⟩
  have q := lp_134 key 36 0 (by decide)
  rw [show va_up z_Y 6 (pfx lwt 0) = z_Y from va_self z_Y 6] at q
  exact i_134 q
end
