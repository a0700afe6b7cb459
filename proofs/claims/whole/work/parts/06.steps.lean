/-! STEPS WITHOUT A CELL (wip/whole/gen6.py) -/
section SNA
variable {g : mG} {p : Program} {l : Launch} {e : Env} {R : Room} {s : State} {m : MethodId} {args : Array Value} {below : List Frame} {meth : Method} {c : Code} {y d M0 len pc : Nat} {L st : List Value} {M : mM} {Q : State → Prop} {r : mR}
theorem iv_nx {pc2 : Nat} {L2 st2 : List Value} {M2 : mM} (h : mnx pc2 L2 st2 M2 = some (.inl r)) : r = (pc2, L2, st2, M2) := by
  simp only [mnx, Option.some.injEq, Sum.inl.injEq] at h
  exact h.symm
theorem iv_ldI {i pc2 : Nat} (h : mldI L i pc2 st M = some (.inl r)) : ∃ x, L[i]? = some (.int x) ∧ r = (pc2, L, .int x :: st, M) := by
  unfold mldI at h
  split at h
  · exact ⟨_, by assumption, iv_nx h⟩
  · cases h
theorem iv_ldL {i pc2 : Nat} (h : mldL L i pc2 st M = some (.inl r)) : ∃ x, L[i]? = some (.long x) ∧ r = (pc2, L, .long x :: st, M) := by
  unfold mldL at h
  split at h
  · exact ⟨_, by assumption, iv_nx h⟩
  · cases h
theorem iv_ldA {i pc2 : Nat} (h : mldA L i pc2 st M = some (.inl r)) : ∃ x, L[i]? = some (.ref x) ∧ x ≠ 1009 ∧ r = (pc2, L, .ref x :: st, M) := by
  unfold mldA at h
  split at h
  · split at h
    · cases h
    · exact ⟨_, by assumption, by assumption, iv_nx h⟩
  · cases h
theorem iv_st1 {i : Nat} {v : Value} {L2 : List Value} (h : mst1 L i v = some L2) : i < L.length ∧ mprev L i = false ∧ L2 = L.set i v := by
  obtain ⟨h1, h2⟩ := gt_some h
  exact ⟨h1.1, h1.2, (Option.some.inj h2).symm⟩
theorem iv_st2 {i : Nat} {v : Value} {L2 : List Value} (h : mst2 L i v = some L2) : i + 1 < L.length ∧ mprev L i = false ∧ L2 = (L.set i v).set (i + 1) .null := by
  obtain ⟨h1, h2⟩ := gt_some h
  exact ⟨h1.1, h1.2, (Option.some.inj h2).symm⟩
theorem iv_stI {i pc2 : Nat} (h : mstI L i pc2 st M = some (.inl r)) : ∃ x st2, st = .int x :: st2 ∧ i < L.length ∧ mprev L i = false ∧ r = (pc2, L.set i (.int x), st2, M) := by
  unfold mstI at h
  split at h
  · split at h
    · rename_i h2
      obtain ⟨h3, h4, rfl⟩ := iv_st1 h2
      exact ⟨_, _, rfl, h3, h4, iv_nx h⟩
    · cases h
  · cases h
theorem iv_stL {i pc2 : Nat} (h : mstL L i pc2 st M = some (.inl r)) : ∃ x st2, st = .long x :: st2 ∧ i + 1 < L.length ∧ mprev L i = false ∧ r = (pc2, (L.set i (.long x)).set (i + 1) .null, st2, M) := by
  unfold mstL at h
  split at h
  · split at h
    · rename_i h2
      obtain ⟨h3, h4, rfl⟩ := iv_st2 h2
      exact ⟨_, _, rfl, h3, h4, iv_nx h⟩
    · cases h
  · cases h
theorem iv_stA {i pc2 : Nat} (h : mstA L i pc2 st M = some (.inl r)) : ∃ x st2, st = .ref x :: st2 ∧ x ≠ 1009 ∧ i < L.length ∧ mprev L i = false ∧ r = (pc2, L.set i (.ref x), st2, M) := by
  unfold mstA at h
  split at h
  · split at h
    · cases h
    · split at h
      · rename_i h1 _ _ h2
        obtain ⟨h3, h4, rfl⟩ := iv_st1 h2
        exact ⟨_, _, rfl, h1, h3, h4, iv_nx h⟩
      · cases h
  · cases h
theorem iv_bin {f : Int32 → Int32 → Option Int32} {pc2 : Nat} (h : mbin f pc2 L st M = some (.inl r)) : ∃ x y z st2, st = .int y :: .int x :: st2 ∧ f x y = some z ∧ r = (pc2, L, .int z :: st2, M) := by
  unfold mbin at h
  split at h
  · split at h
    · exact ⟨_, _, _, _, rfl, by assumption, iv_nx h⟩
    · cases h
  · cases h
theorem iv_binL {f : Int64 → Int64 → Option Int64} {pc2 : Nat} (h : mbinL f pc2 L st M = some (.inl r)) : ∃ x y z st2, st = .long y :: .long x :: st2 ∧ f x y = some z ∧ r = (pc2, L, .long z :: st2, M) := by
  unfold mbinL at h
  split at h
  · split at h
    · exact ⟨_, _, _, _, rfl, by assumption, iv_nx h⟩
    · cases h
  · cases h
theorem iv_un {f : Int32 → Value} {pc2 : Nat} (h : mun f pc2 L st M = some (.inl r)) : ∃ x st2, st = .int x :: st2 ∧ r = (pc2, L, f x :: st2, M) := by
  unfold mun at h
  split at h
  · exact ⟨_, _, rfl, iv_nx h⟩
  · cases h
theorem iv_jmp {off : Int} {L2 st2 : List Value} {M2 : mM} (h : mjmp pc off L2 st2 M2 = some (.inl r)) : (pc : Int) + off = ((((pc : Int) + off).toNat : Nat) : Int) ∧ r = (((pc : Int) + off).toNat, L2, st2, M2) := by
  obtain ⟨h1, h2⟩ := gt_some h
  exact ⟨(Int.toNat_of_nonneg h1).symm, iv_nx h2⟩
theorem rv_ref {k : Nat} (h : k < 1000) : rv g (.ref k) = .ref (gB g + k) := by
  show (if k < 1000 then Value.ref (gB g + k) else om g (k - 1000)) = _
  rw [if_pos h]
theorem rv_out {k : Nat} (h : ¬ k < 1000) (h9 : k ≠ 1009) : rv g (.ref k) = .ref (gO g (k - 1000)) := by
  show (if k < 1000 then Value.ref (gB g + k) else om g (k - 1000)) = _
  rw [if_neg h]
  unfold om
  rw [if_neg (by omega)]
theorem rv_is {k : Nat} (h9 : k ≠ 1009) : ∃ a, rv g (.ref k) = .ref a := by
  by_cases h : k < 1000
  · exact ⟨_, rv_ref h⟩
  · exact ⟨_, rv_out h h9⟩
theorem sn_iload {i : Nat} (C : cx g p R s m meth c y d args) (hd : decode (bt y) pc = .ok (.iload i, len)) (hs : stp y (.iload i) len pc L st M = some (.inl r)) (k : Kn g p l e R s m args below meth c y M0 Q r) : Kn g p l e R s m args below meth c y M0 Q (pc, L, st, M) := by
  obtain ⟨hx, hb, -, hml, -, -, -, -, -, -, -, -, -, h9⟩ := C
  obtain ⟨rfl, hs2⟩ := gt_some (show (if len = 2 then mldI L i (pc + 2) st M else none) = some (.inl r) from hs)
  obtain ⟨x, h1, rfl⟩ := iv_ldI hs2
  intro H locs ls a1 a2 a3 a4
  exact lv_iload hx hb hd (lr_at a3 h1 (fun h => by cases h)) (k H locs ls a1 a2 a3 a4)
theorem sn_iload_n {i : Fin 4} (C : cx g p R s m meth c y d args) (hd : decode (bt y) pc = .ok (.iload_n i, len)) (hs : stp y (.iload_n i) len pc L st M = some (.inl r)) (k : Kn g p l e R s m args below meth c y M0 Q r) : Kn g p l e R s m args below meth c y M0 Q (pc, L, st, M) := by
  obtain ⟨hx, hb, -, hml, -, -, -, -, -, -, -, -, -, h9⟩ := C
  obtain ⟨rfl, hs2⟩ := gt_some (show (if len = 1 then mldI L i (pc + 1) st M else none) = some (.inl r) from hs)
  obtain ⟨x, h1, rfl⟩ := iv_ldI hs2
  intro H locs ls a1 a2 a3 a4
  exact lv_iload_n hx hb hd rfl (lr_at a3 h1 (fun h => by cases h)) (k H locs ls a1 a2 a3 a4)
theorem sn_lload {i : Nat} (C : cx g p R s m meth c y d args) (hd : decode (bt y) pc = .ok (.lload i, len)) (hs : stp y (.lload i) len pc L st M = some (.inl r)) (k : Kn g p l e R s m args below meth c y M0 Q r) : Kn g p l e R s m args below meth c y M0 Q (pc, L, st, M) := by
  obtain ⟨hx, hb, -, hml, -, -, -, -, -, -, -, -, -, h9⟩ := C
  obtain ⟨rfl, hs2⟩ := gt_some (show (if len = 2 then mldL L i (pc + 2) st M else none) = some (.inl r) from hs)
  obtain ⟨x, h1, rfl⟩ := iv_ldL hs2
  intro H locs ls a1 a2 a3 a4
  exact lv_lload hx hb hd (lr_at a3 h1 (fun h => by cases h)) (k H locs ls a1 a2 a3 a4)
theorem sn_lload_n {i : Fin 4} (C : cx g p R s m meth c y d args) (hd : decode (bt y) pc = .ok (.lload_n i, len)) (hs : stp y (.lload_n i) len pc L st M = some (.inl r)) (k : Kn g p l e R s m args below meth c y M0 Q r) : Kn g p l e R s m args below meth c y M0 Q (pc, L, st, M) := by
  obtain ⟨hx, hb, -, hml, -, -, -, -, -, -, -, -, -, h9⟩ := C
  obtain ⟨rfl, hs2⟩ := gt_some (show (if len = 1 then mldL L i (pc + 1) st M else none) = some (.inl r) from hs)
  obtain ⟨x, h1, rfl⟩ := iv_ldL hs2
  intro H locs ls a1 a2 a3 a4
  exact lv_lload_n hx hb hd rfl (lr_at a3 h1 (fun h => by cases h)) (k H locs ls a1 a2 a3 a4)
theorem sn_aload {i : Nat} (C : cx g p R s m meth c y d args) (hd : decode (bt y) pc = .ok (.aload i, len)) (hs : stp y (.aload i) len pc L st M = some (.inl r)) (k : Kn g p l e R s m args below meth c y M0 Q r) : Kn g p l e R s m args below meth c y M0 Q (pc, L, st, M) := by
  obtain ⟨hx, hb, -, hml, -, -, -, -, -, -, -, -, -, h9⟩ := C
  obtain ⟨rfl, hs2⟩ := gt_some (show (if len = 2 then mldA L i (pc + 2) st M else none) = some (.inl r) from hs)
  obtain ⟨x, h1, h2, rfl⟩ := iv_ldA hs2
  intro H locs ls a1 a2 a3 a4
  obtain ⟨a, ha⟩ := rv_is (g := g) h2
  have h3 := lr_at a3 h1 (fun h => by cases h)
  rw [ha] at h3
  have h4 := k H locs ls a1 a2 a3 a4
  dsimp only at h4
  rw [List.map_cons] at h4
  rw [ha] at h4
  exact lv_aload hx hb hd h3 h4
theorem sn_aload_n {i : Fin 4} (C : cx g p R s m meth c y d args) (hd : decode (bt y) pc = .ok (.aload_n i, len)) (hs : stp y (.aload_n i) len pc L st M = some (.inl r)) (k : Kn g p l e R s m args below meth c y M0 Q r) : Kn g p l e R s m args below meth c y M0 Q (pc, L, st, M) := by
  obtain ⟨hx, hb, -, hml, -, -, -, -, -, -, -, -, -, h9⟩ := C
  obtain ⟨rfl, hs2⟩ := gt_some (show (if len = 1 then mldA L i (pc + 1) st M else none) = some (.inl r) from hs)
  obtain ⟨x, h1, h2, rfl⟩ := iv_ldA hs2
  intro H locs ls a1 a2 a3 a4
  obtain ⟨a, ha⟩ := rv_is (g := g) h2
  have h3 := lr_at a3 h1 (fun h => by cases h)
  rw [ha] at h3
  have h4 := k H locs ls a1 a2 a3 a4
  dsimp only at h4
  rw [List.map_cons] at h4
  rw [ha] at h4
  exact lv_aload_n hx hb hd rfl h3 h4
theorem sn_istore {i : Nat} (C : cx g p R s m meth c y d args) (hd : decode (bt y) pc = .ok (.istore i, len)) (hs : stp y (.istore i) len pc L st M = some (.inl r)) (k : Kn g p l e R s m args below meth c y M0 Q r) : Kn g p l e R s m args below meth c y M0 Q (pc, L, st, M) := by
  obtain ⟨hx, hb, -, hml, -, -, -, -, -, -, -, -, -, h9⟩ := C
  obtain ⟨rfl, hs2⟩ := gt_some (show (if len = 2 then mstI L i (pc + 2) st M else none) = some (.inl r) from hs)
  obtain ⟨x, st2, rfl, h1, h2, rfl⟩ := iv_stI hs2
  intro H locs ls a1 a2 a3 a4
  exact lv_istore hx hb hd a3 h1 rfl (fun ls2 h3 => k H locs ls2 a1 a2 (lr_s1 h9 h2 h3) (by simpa using a4))
theorem sn_istore_n {i : Fin 4} (C : cx g p R s m meth c y d args) (hd : decode (bt y) pc = .ok (.istore_n i, len)) (hs : stp y (.istore_n i) len pc L st M = some (.inl r)) (k : Kn g p l e R s m args below meth c y M0 Q r) : Kn g p l e R s m args below meth c y M0 Q (pc, L, st, M) := by
  obtain ⟨hx, hb, -, hml, -, -, -, -, -, -, -, -, -, h9⟩ := C
  obtain ⟨rfl, hs2⟩ := gt_some (show (if len = 1 then mstI L i (pc + 1) st M else none) = some (.inl r) from hs)
  obtain ⟨x, st2, rfl, h1, h2, rfl⟩ := iv_stI hs2
  intro H locs ls a1 a2 a3 a4
  exact lv_istore_n hx hb hd rfl a3 h1 rfl (fun ls2 h3 => k H locs ls2 a1 a2 (lr_s1 h9 h2 h3) (by simpa using a4))
theorem sn_lstore {i : Nat} (C : cx g p R s m meth c y d args) (hd : decode (bt y) pc = .ok (.lstore i, len)) (hs : stp y (.lstore i) len pc L st M = some (.inl r)) (k : Kn g p l e R s m args below meth c y M0 Q r) : Kn g p l e R s m args below meth c y M0 Q (pc, L, st, M) := by
  obtain ⟨hx, hb, -, hml, -, -, -, -, -, -, -, -, -, h9⟩ := C
  obtain ⟨rfl, hs2⟩ := gt_some (show (if len = 2 then mstL L i (pc + 2) st M else none) = some (.inl r) from hs)
  obtain ⟨x, st2, rfl, h1, h2, rfl⟩ := iv_stL hs2
  intro H locs ls a1 a2 a3 a4
  exact lv_lstore hx hb hd a3 h1 rfl (fun ls2 h3 => k H locs ls2 a1 a2 (lr_s2 h9 h2 h3) (by simpa using a4))
theorem sn_lstore_n {i : Fin 4} (C : cx g p R s m meth c y d args) (hd : decode (bt y) pc = .ok (.lstore_n i, len)) (hs : stp y (.lstore_n i) len pc L st M = some (.inl r)) (k : Kn g p l e R s m args below meth c y M0 Q r) : Kn g p l e R s m args below meth c y M0 Q (pc, L, st, M) := by
  obtain ⟨hx, hb, -, hml, -, -, -, -, -, -, -, -, -, h9⟩ := C
  obtain ⟨rfl, hs2⟩ := gt_some (show (if len = 1 then mstL L i (pc + 1) st M else none) = some (.inl r) from hs)
  obtain ⟨x, st2, rfl, h1, h2, rfl⟩ := iv_stL hs2
  intro H locs ls a1 a2 a3 a4
  exact lv_lstore_n hx hb hd rfl a3 h1 rfl (fun ls2 h3 => k H locs ls2 a1 a2 (lr_s2 h9 h2 h3) (by simpa using a4))
theorem sn_astore {i : Nat} (C : cx g p R s m meth c y d args) (hd : decode (bt y) pc = .ok (.astore i, len)) (hs : stp y (.astore i) len pc L st M = some (.inl r)) (k : Kn g p l e R s m args below meth c y M0 Q r) : Kn g p l e R s m args below meth c y M0 Q (pc, L, st, M) := by
  obtain ⟨hx, hb, -, hml, -, -, -, -, -, -, -, -, -, h9⟩ := C
  obtain ⟨rfl, hs2⟩ := gt_some (show (if len = 2 then mstA L i (pc + 2) st M else none) = some (.inl r) from hs)
  obtain ⟨x, st2, rfl, h0, h1, h2, rfl⟩ := iv_stA hs2
  intro H locs ls a1 a2 a3 a4
  obtain ⟨a, ha⟩ := rv_is (g := g) h0
  show W _ _ _ _ _ _ _ _ _ _ _ _ _ _ _ (F0 m pc ls (rv g (.ref x) :: st2.map (rv g)))
  rw [ha]
  exact lv_astore hx hb hd a3 h1 rfl (fun ls2 h3 => k H locs ls2 a1 a2 (lr_s1 h9 h2 (by rw [ha]; exact h3)) (by simpa using a4))
theorem sn_astore_n {i : Fin 4} (C : cx g p R s m meth c y d args) (hd : decode (bt y) pc = .ok (.astore_n i, len)) (hs : stp y (.astore_n i) len pc L st M = some (.inl r)) (k : Kn g p l e R s m args below meth c y M0 Q r) : Kn g p l e R s m args below meth c y M0 Q (pc, L, st, M) := by
  obtain ⟨hx, hb, -, hml, -, -, -, -, -, -, -, -, -, h9⟩ := C
  obtain ⟨rfl, hs2⟩ := gt_some (show (if len = 1 then mstA L i (pc + 1) st M else none) = some (.inl r) from hs)
  obtain ⟨x, st2, rfl, h0, h1, h2, rfl⟩ := iv_stA hs2
  intro H locs ls a1 a2 a3 a4
  obtain ⟨a, ha⟩ := rv_is (g := g) h0
  show W _ _ _ _ _ _ _ _ _ _ _ _ _ _ _ (F0 m pc ls (rv g (.ref x) :: st2.map (rv g)))
  rw [ha]
  exact lv_astore_n hx hb hd rfl a3 h1 rfl (fun ls2 h3 => k H locs ls2 a1 a2 (lr_s1 h9 h2 (by rw [ha]; exact h3)) (by simpa using a4))
theorem sn_iconst {n : Int} (C : cx g p R s m meth c y d args) (hd : decode (bt y) pc = .ok (.iconst n, len)) (hs : stp y (.iconst n) len pc L st M = some (.inl r)) (k : Kn g p l e R s m args below meth c y M0 Q r) : Kn g p l e R s m args below meth c y M0 Q (pc, L, st, M) := by
  obtain ⟨hx, hb, -, hml, -, -, -, -, -, -, -, -, -, h9⟩ := C
  obtain ⟨rfl, hs2⟩ := gt_some (show (if len = 1 then mnx (pc + 1) L (.int (Int32.ofInt n) :: st) M else none) = some (.inl r) from hs)
  obtain rfl := iv_nx hs2
  intro H locs ls a1 a2 a3 a4
  exact lv_iconst hx hb hd rfl (k H locs ls a1 a2 a3 a4)
theorem sn_bipush {n : Int} (C : cx g p R s m meth c y d args) (hd : decode (bt y) pc = .ok (.bipush n, len)) (hs : stp y (.bipush n) len pc L st M = some (.inl r)) (k : Kn g p l e R s m args below meth c y M0 Q r) : Kn g p l e R s m args below meth c y M0 Q (pc, L, st, M) := by
  obtain ⟨hx, hb, -, hml, -, -, -, -, -, -, -, -, -, h9⟩ := C
  obtain ⟨rfl, hs2⟩ := gt_some (show (if len = 2 then mnx (pc + 2) L (.int (Int8.ofInt n).toInt32 :: st) M else none) = some (.inl r) from hs)
  obtain rfl := iv_nx hs2
  intro H locs ls a1 a2 a3 a4
  exact lv_bipush hx hb hd rfl (k H locs ls a1 a2 a3 a4)
theorem sn_sipush {n : Int} (C : cx g p R s m meth c y d args) (hd : decode (bt y) pc = .ok (.sipush n, len)) (hs : stp y (.sipush n) len pc L st M = some (.inl r)) (k : Kn g p l e R s m args below meth c y M0 Q r) : Kn g p l e R s m args below meth c y M0 Q (pc, L, st, M) := by
  obtain ⟨hx, hb, -, hml, -, -, -, -, -, -, -, -, -, h9⟩ := C
  obtain ⟨rfl, hs2⟩ := gt_some (show (if len = 3 then mnx (pc + 3) L (.int (Int16.ofInt n).toInt32 :: st) M else none) = some (.inl r) from hs)
  obtain rfl := iv_nx hs2
  intro H locs ls a1 a2 a3 a4
  exact lv_sipush hx hb hd rfl (k H locs ls a1 a2 a3 a4)
theorem sn_lconst {n : Fin 2} (C : cx g p R s m meth c y d args) (hd : decode (bt y) pc = .ok (.lconst n, len)) (hs : stp y (.lconst n) len pc L st M = some (.inl r)) (k : Kn g p l e R s m args below meth c y M0 Q r) : Kn g p l e R s m args below meth c y M0 Q (pc, L, st, M) := by
  obtain ⟨hx, hb, -, hml, -, -, -, -, -, -, -, -, -, h9⟩ := C
  obtain ⟨rfl, hs2⟩ := gt_some (show (if len = 1 then mnx (pc + 1) L (.long (Int64.ofNat (n : Nat)) :: st) M else none) = some (.inl r) from hs)
  obtain rfl := iv_nx hs2
  intro H locs ls a1 a2 a3 a4
  exact lv_lconst hx hb hd rfl (k H locs ls a1 a2 a3 a4)
theorem sn_iadd (C : cx g p R s m meth c y d args) (hd : decode (bt y) pc = .ok (.iadd, len)) (hs : stp y (.iadd) len pc L st M = some (.inl r)) (k : Kn g p l e R s m args below meth c y M0 Q r) : Kn g p l e R s m args below meth c y M0 Q (pc, L, st, M) := by
  obtain ⟨hx, hb, -, hml, -, -, -, -, -, -, -, -, -, h9⟩ := C
  obtain ⟨rfl, hs2⟩ := gt_some (show (if len = 1 then mbin (fun x y => some (x + y)) (pc + 1) L st M else none) = some (.inl r) from hs)
  obtain ⟨x, z, w, st2, rfl, h1, rfl⟩ := iv_bin hs2
  obtain rfl := Option.some.inj h1
  intro H locs ls a1 a2 a3 a4
  exact lv_iadd hx hb hd (k H locs ls a1 a2 a3 a4)
theorem sn_isub (C : cx g p R s m meth c y d args) (hd : decode (bt y) pc = .ok (.isub, len)) (hs : stp y (.isub) len pc L st M = some (.inl r)) (k : Kn g p l e R s m args below meth c y M0 Q r) : Kn g p l e R s m args below meth c y M0 Q (pc, L, st, M) := by
  obtain ⟨hx, hb, -, hml, -, -, -, -, -, -, -, -, -, h9⟩ := C
  obtain ⟨rfl, hs2⟩ := gt_some (show (if len = 1 then mbin (fun x y => some (x - y)) (pc + 1) L st M else none) = some (.inl r) from hs)
  obtain ⟨x, z, w, st2, rfl, h1, rfl⟩ := iv_bin hs2
  obtain rfl := Option.some.inj h1
  intro H locs ls a1 a2 a3 a4
  exact lv_isub hx hb hd (k H locs ls a1 a2 a3 a4)
theorem sn_imul (C : cx g p R s m meth c y d args) (hd : decode (bt y) pc = .ok (.imul, len)) (hs : stp y (.imul) len pc L st M = some (.inl r)) (k : Kn g p l e R s m args below meth c y M0 Q r) : Kn g p l e R s m args below meth c y M0 Q (pc, L, st, M) := by
  obtain ⟨hx, hb, -, hml, -, -, -, -, -, -, -, -, -, h9⟩ := C
  obtain ⟨rfl, hs2⟩ := gt_some (show (if len = 1 then mbin (fun x y => some (x * y)) (pc + 1) L st M else none) = some (.inl r) from hs)
  obtain ⟨x, z, w, st2, rfl, h1, rfl⟩ := iv_bin hs2
  obtain rfl := Option.some.inj h1
  intro H locs ls a1 a2 a3 a4
  exact lv_imul hx hb hd (k H locs ls a1 a2 a3 a4)
theorem sn_iand (C : cx g p R s m meth c y d args) (hd : decode (bt y) pc = .ok (.iand, len)) (hs : stp y (.iand) len pc L st M = some (.inl r)) (k : Kn g p l e R s m args below meth c y M0 Q r) : Kn g p l e R s m args below meth c y M0 Q (pc, L, st, M) := by
  obtain ⟨hx, hb, -, hml, -, -, -, -, -, -, -, -, -, h9⟩ := C
  obtain ⟨rfl, hs2⟩ := gt_some (show (if len = 1 then mbin (fun x y => some (x &&& y)) (pc + 1) L st M else none) = some (.inl r) from hs)
  obtain ⟨x, z, w, st2, rfl, h1, rfl⟩ := iv_bin hs2
  obtain rfl := Option.some.inj h1
  intro H locs ls a1 a2 a3 a4
  exact lv_iand hx hb hd (k H locs ls a1 a2 a3 a4)
theorem sn_ior (C : cx g p R s m meth c y d args) (hd : decode (bt y) pc = .ok (.ior, len)) (hs : stp y (.ior) len pc L st M = some (.inl r)) (k : Kn g p l e R s m args below meth c y M0 Q r) : Kn g p l e R s m args below meth c y M0 Q (pc, L, st, M) := by
  obtain ⟨hx, hb, -, hml, -, -, -, -, -, -, -, -, -, h9⟩ := C
  obtain ⟨rfl, hs2⟩ := gt_some (show (if len = 1 then mbin (fun x y => some (x ||| y)) (pc + 1) L st M else none) = some (.inl r) from hs)
  obtain ⟨x, z, w, st2, rfl, h1, rfl⟩ := iv_bin hs2
  obtain rfl := Option.some.inj h1
  intro H locs ls a1 a2 a3 a4
  exact lv_ior hx hb hd (k H locs ls a1 a2 a3 a4)
theorem sn_ishl (C : cx g p R s m meth c y d args) (hd : decode (bt y) pc = .ok (.ishl, len)) (hs : stp y (.ishl) len pc L st M = some (.inl r)) (k : Kn g p l e R s m args below meth c y M0 Q r) : Kn g p l e R s m args below meth c y M0 Q (pc, L, st, M) := by
  obtain ⟨hx, hb, -, hml, -, -, -, -, -, -, -, -, -, h9⟩ := C
  obtain ⟨rfl, hs2⟩ := gt_some (show (if len = 1 then mbin (fun x y => some (x <<< (y &&& 31))) (pc + 1) L st M else none) = some (.inl r) from hs)
  obtain ⟨x, z, w, st2, rfl, h1, rfl⟩ := iv_bin hs2
  obtain rfl := Option.some.inj h1
  intro H locs ls a1 a2 a3 a4
  exact lv_ishl hx hb hd (k H locs ls a1 a2 a3 a4)
theorem sn_ishr (C : cx g p R s m meth c y d args) (hd : decode (bt y) pc = .ok (.ishr, len)) (hs : stp y (.ishr) len pc L st M = some (.inl r)) (k : Kn g p l e R s m args below meth c y M0 Q r) : Kn g p l e R s m args below meth c y M0 Q (pc, L, st, M) := by
  obtain ⟨hx, hb, -, hml, -, -, -, -, -, -, -, -, -, h9⟩ := C
  obtain ⟨rfl, hs2⟩ := gt_some (show (if len = 1 then mbin (fun x y => some (x >>> (y &&& 31))) (pc + 1) L st M else none) = some (.inl r) from hs)
  obtain ⟨x, z, w, st2, rfl, h1, rfl⟩ := iv_bin hs2
  obtain rfl := Option.some.inj h1
  intro H locs ls a1 a2 a3 a4
  exact lv_ishr hx hb hd (k H locs ls a1 a2 a3 a4)
theorem sn_idiv (C : cx g p R s m meth c y d args) (hd : decode (bt y) pc = .ok (.idiv, len)) (hs : stp y (.idiv) len pc L st M = some (.inl r)) (k : Kn g p l e R s m args below meth c y M0 Q r) : Kn g p l e R s m args below meth c y M0 Q (pc, L, st, M) := by
  obtain ⟨hx, hb, -, hml, -, -, -, -, -, -, -, -, -, h9⟩ := C
  obtain ⟨rfl, hs2⟩ := gt_some (show (if len = 1 then mbin (fun x y => if y = 0 then none else some (x / y)) (pc + 1) L st M else none) = some (.inl r) from hs)
  obtain ⟨x, z, w, st2, rfl, h1, rfl⟩ := iv_bin hs2
  by_cases hz : z = 0
  · simp [hz] at h1
  simp only [if_neg hz] at h1
  obtain rfl := Option.some.inj h1
  intro H locs ls a1 a2 a3 a4
  exact lv_idiv hx hb hd hz (k H locs ls a1 a2 a3 a4)
theorem sn_irem (C : cx g p R s m meth c y d args) (hd : decode (bt y) pc = .ok (.irem, len)) (hs : stp y (.irem) len pc L st M = some (.inl r)) (k : Kn g p l e R s m args below meth c y M0 Q r) : Kn g p l e R s m args below meth c y M0 Q (pc, L, st, M) := by
  obtain ⟨hx, hb, -, hml, -, -, -, -, -, -, -, -, -, h9⟩ := C
  obtain ⟨rfl, hs2⟩ := gt_some (show (if len = 1 then mbin (fun x y => if y = 0 then none else some (x - x / y * y)) (pc + 1) L st M else none) = some (.inl r) from hs)
  obtain ⟨x, z, w, st2, rfl, h1, rfl⟩ := iv_bin hs2
  by_cases hz : z = 0
  · simp [hz] at h1
  simp only [if_neg hz] at h1
  obtain rfl := Option.some.inj h1
  intro H locs ls a1 a2 a3 a4
  exact lv_irem hx hb hd hz (k H locs ls a1 a2 a3 a4)
theorem sn_ladd (C : cx g p R s m meth c y d args) (hd : decode (bt y) pc = .ok (.ladd, len)) (hs : stp y (.ladd) len pc L st M = some (.inl r)) (k : Kn g p l e R s m args below meth c y M0 Q r) : Kn g p l e R s m args below meth c y M0 Q (pc, L, st, M) := by
  obtain ⟨hx, hb, -, hml, -, -, -, -, -, -, -, -, -, h9⟩ := C
  obtain ⟨rfl, hs2⟩ := gt_some (show (if len = 1 then mbinL (fun x y => some (x + y)) (pc + 1) L st M else none) = some (.inl r) from hs)
  obtain ⟨x, z, w, st2, rfl, h1, rfl⟩ := iv_binL hs2
  obtain rfl := Option.some.inj h1
  intro H locs ls a1 a2 a3 a4
  exact lv_ladd hx hb hd (k H locs ls a1 a2 a3 a4)
theorem sn_lmul (C : cx g p R s m meth c y d args) (hd : decode (bt y) pc = .ok (.lmul, len)) (hs : stp y (.lmul) len pc L st M = some (.inl r)) (k : Kn g p l e R s m args below meth c y M0 Q r) : Kn g p l e R s m args below meth c y M0 Q (pc, L, st, M) := by
  obtain ⟨hx, hb, -, hml, -, -, -, -, -, -, -, -, -, h9⟩ := C
  obtain ⟨rfl, hs2⟩ := gt_some (show (if len = 1 then mbinL (fun x y => some (x * y)) (pc + 1) L st M else none) = some (.inl r) from hs)
  obtain ⟨x, z, w, st2, rfl, h1, rfl⟩ := iv_binL hs2
  obtain rfl := Option.some.inj h1
  intro H locs ls a1 a2 a3 a4
  exact lv_lmul hx hb hd (k H locs ls a1 a2 a3 a4)
theorem sn_ldiv (C : cx g p R s m meth c y d args) (hd : decode (bt y) pc = .ok (.ldiv, len)) (hs : stp y (.ldiv) len pc L st M = some (.inl r)) (k : Kn g p l e R s m args below meth c y M0 Q r) : Kn g p l e R s m args below meth c y M0 Q (pc, L, st, M) := by
  obtain ⟨hx, hb, -, hml, -, -, -, -, -, -, -, -, -, h9⟩ := C
  obtain ⟨rfl, hs2⟩ := gt_some (show (if len = 1 then mbinL (fun x y => if y = 0 then none else some (x / y)) (pc + 1) L st M else none) = some (.inl r) from hs)
  obtain ⟨x, z, w, st2, rfl, h1, rfl⟩ := iv_binL hs2
  by_cases hz : z = 0
  · simp [hz] at h1
  simp only [if_neg hz] at h1
  obtain rfl := Option.some.inj h1
  intro H locs ls a1 a2 a3 a4
  exact lv_ldiv hx hb hd hz (k H locs ls a1 a2 a3 a4)
theorem sn_lrem (C : cx g p R s m meth c y d args) (hd : decode (bt y) pc = .ok (.lrem, len)) (hs : stp y (.lrem) len pc L st M = some (.inl r)) (k : Kn g p l e R s m args below meth c y M0 Q r) : Kn g p l e R s m args below meth c y M0 Q (pc, L, st, M) := by
  obtain ⟨hx, hb, -, hml, -, -, -, -, -, -, -, -, -, h9⟩ := C
  obtain ⟨rfl, hs2⟩ := gt_some (show (if len = 1 then mbinL (fun x y => if y = 0 then none else some (x - x / y * y)) (pc + 1) L st M else none) = some (.inl r) from hs)
  obtain ⟨x, z, w, st2, rfl, h1, rfl⟩ := iv_binL hs2
  by_cases hz : z = 0
  · simp [hz] at h1
  simp only [if_neg hz] at h1
  obtain rfl := Option.some.inj h1
  intro H locs ls a1 a2 a3 a4
  exact lv_lrem hx hb hd hz (k H locs ls a1 a2 a3 a4)
theorem sn_ineg (C : cx g p R s m meth c y d args) (hd : decode (bt y) pc = .ok (.ineg, len)) (hs : stp y (.ineg) len pc L st M = some (.inl r)) (k : Kn g p l e R s m args below meth c y M0 Q r) : Kn g p l e R s m args below meth c y M0 Q (pc, L, st, M) := by
  obtain ⟨hx, hb, -, hml, -, -, -, -, -, -, -, -, -, h9⟩ := C
  obtain ⟨rfl, hs2⟩ := gt_some (show (if len = 1 then mun (fun x => .int (-x)) (pc + 1) L st M else none) = some (.inl r) from hs)
  obtain ⟨x, st2, rfl, rfl⟩ := iv_un hs2
  intro H locs ls a1 a2 a3 a4
  exact lv_ineg hx hb hd (k H locs ls a1 a2 a3 a4)
theorem sn_i2l (C : cx g p R s m meth c y d args) (hd : decode (bt y) pc = .ok (.i2l, len)) (hs : stp y (.i2l) len pc L st M = some (.inl r)) (k : Kn g p l e R s m args below meth c y M0 Q r) : Kn g p l e R s m args below meth c y M0 Q (pc, L, st, M) := by
  obtain ⟨hx, hb, -, hml, -, -, -, -, -, -, -, -, -, h9⟩ := C
  obtain ⟨rfl, hs2⟩ := gt_some (show (if len = 1 then mun (fun x => .long x.toInt64) (pc + 1) L st M else none) = some (.inl r) from hs)
  obtain ⟨x, st2, rfl, rfl⟩ := iv_un hs2
  intro H locs ls a1 a2 a3 a4
  exact lv_i2l hx hb hd rfl (k H locs ls a1 a2 a3 a4)
theorem sn_i2b (C : cx g p R s m meth c y d args) (hd : decode (bt y) pc = .ok (.i2b, len)) (hs : stp y (.i2b) len pc L st M = some (.inl r)) (k : Kn g p l e R s m args below meth c y M0 Q r) : Kn g p l e R s m args below meth c y M0 Q (pc, L, st, M) := by
  obtain ⟨hx, hb, -, hml, -, -, -, -, -, -, -, -, -, h9⟩ := C
  obtain ⟨rfl, hs2⟩ := gt_some (show (if len = 1 then mun (fun x => .int x.toInt8.toInt32) (pc + 1) L st M else none) = some (.inl r) from hs)
  obtain ⟨x, st2, rfl, rfl⟩ := iv_un hs2
  intro H locs ls a1 a2 a3 a4
  exact lv_i2b hx hb hd rfl (k H locs ls a1 a2 a3 a4)
theorem sn_i2s (C : cx g p R s m meth c y d args) (hd : decode (bt y) pc = .ok (.i2s, len)) (hs : stp y (.i2s) len pc L st M = some (.inl r)) (k : Kn g p l e R s m args below meth c y M0 Q r) : Kn g p l e R s m args below meth c y M0 Q (pc, L, st, M) := by
  obtain ⟨hx, hb, -, hml, -, -, -, -, -, -, -, -, -, h9⟩ := C
  obtain ⟨rfl, hs2⟩ := gt_some (show (if len = 1 then mun (fun x => .int x.toInt16.toInt32) (pc + 1) L st M else none) = some (.inl r) from hs)
  obtain ⟨x, st2, rfl, rfl⟩ := iv_un hs2
  intro H locs ls a1 a2 a3 a4
  exact lv_i2s hx hb hd rfl (k H locs ls a1 a2 a3 a4)
theorem sn_i2c (C : cx g p R s m meth c y d args) (hd : decode (bt y) pc = .ok (.i2c, len)) (hs : stp y (.i2c) len pc L st M = some (.inl r)) (k : Kn g p l e R s m args below meth c y M0 Q r) : Kn g p l e R s m args below meth c y M0 Q (pc, L, st, M) := by
  obtain ⟨hx, hb, -, hml, -, -, -, -, -, -, -, -, -, h9⟩ := C
  obtain ⟨rfl, hs2⟩ := gt_some (show (if len = 1 then mun (fun x => .int (x.toUInt32 % 65536).toInt32) (pc + 1) L st M else none) = some (.inl r) from hs)
  obtain ⟨x, st2, rfl, rfl⟩ := iv_un hs2
  intro H locs ls a1 a2 a3 a4
  exact lv_i2c hx hb hd rfl (k H locs ls a1 a2 a3 a4)
theorem sn_l2i (C : cx g p R s m meth c y d args) (hd : decode (bt y) pc = .ok (.l2i, len)) (hs : stp y (.l2i) len pc L st M = some (.inl r)) (k : Kn g p l e R s m args below meth c y M0 Q r) : Kn g p l e R s m args below meth c y M0 Q (pc, L, st, M) := by
  obtain ⟨hx, hb, -, hml, -, -, -, -, -, -, -, -, -, h9⟩ := C
  simp only [stp] at hs
  obtain ⟨rfl, hs2⟩ := gt_some hs
  split at hs2
  · obtain rfl := iv_nx hs2
    intro H locs ls a1 a2 a3 a4
    exact lv_l2i hx hb hd rfl (k H locs ls a1 a2 a3 a4)
  · cases hs2
theorem sn_lcmp (C : cx g p R s m meth c y d args) (hd : decode (bt y) pc = .ok (.lcmp, len)) (hs : stp y (.lcmp) len pc L st M = some (.inl r)) (k : Kn g p l e R s m args below meth c y M0 Q r) : Kn g p l e R s m args below meth c y M0 Q (pc, L, st, M) := by
  obtain ⟨hx, hb, -, hml, -, -, -, -, -, -, -, -, -, h9⟩ := C
  simp only [stp] at hs
  obtain ⟨rfl, hs2⟩ := gt_some hs
  split at hs2
  · obtain rfl := iv_nx hs2
    intro H locs ls a1 a2 a3 a4
    exact W.lcmp hx hb hd (k H locs ls a1 a2 a3 a4)
  · cases hs2
theorem sn_dup (C : cx g p R s m meth c y d args) (hd : decode (bt y) pc = .ok (.dup, len)) (hs : stp y (.dup) len pc L st M = some (.inl r)) (k : Kn g p l e R s m args below meth c y M0 Q r) : Kn g p l e R s m args below meth c y M0 Q (pc, L, st, M) := by
  obtain ⟨hx, hb, -, hml, -, -, -, -, -, -, -, -, -, h9⟩ := C
  simp only [stp] at hs
  obtain ⟨rfl, hs2⟩ := gt_some hs
  split at hs2
  · obtain ⟨h1, hs2⟩ := gt_some hs2
    obtain rfl := iv_nx hs2
    intro H locs ls a1 a2 a3 a4
    exact lv_dup hx hb hd (by rw [rv_cat h9]; exact h1) (k H locs ls a1 a2 a3 a4)
  · cases hs2
theorem sn_pop (C : cx g p R s m meth c y d args) (hd : decode (bt y) pc = .ok (.pop, len)) (hs : stp y (.pop) len pc L st M = some (.inl r)) (k : Kn g p l e R s m args below meth c y M0 Q r) : Kn g p l e R s m args below meth c y M0 Q (pc, L, st, M) := by
  obtain ⟨hx, hb, -, hml, -, -, -, -, -, -, -, -, -, h9⟩ := C
  simp only [stp] at hs
  obtain ⟨rfl, hs2⟩ := gt_some hs
  split at hs2
  · obtain ⟨h1, hs2⟩ := gt_some hs2
    obtain rfl := iv_nx hs2
    intro H locs ls a1 a2 a3 a4
    exact lv_pop hx hb hd (by rw [rv_cat h9]; exact h1) (k H locs ls a1 a2 a3 a4)
  · cases hs2
theorem sn_dup2 (C : cx g p R s m meth c y d args) (hd : decode (bt y) pc = .ok (.dup2, len)) (hs : stp y (.dup2) len pc L st M = some (.inl r)) (k : Kn g p l e R s m args below meth c y M0 Q r) : Kn g p l e R s m args below meth c y M0 Q (pc, L, st, M) := by
  obtain ⟨hx, hb, -, hml, -, -, -, -, -, -, -, -, -, h9⟩ := C
  simp only [stp] at hs
  obtain ⟨rfl, hs2⟩ := gt_some hs
  split at hs2
  · obtain ⟨h1, hs2⟩ := gt_some hs2
    obtain rfl := iv_nx hs2
    intro H locs ls a1 a2 a3 a4
    exact lv_dup2_11 hx hb hd (by rw [rv_cat h9]; exact h1.1) (by rw [rv_cat h9]; exact h1.2) (k H locs ls a1 a2 a3 a4)
  · cases hs2
theorem sn_iinc {i : Nat} {n : Int} (C : cx g p R s m meth c y d args) (hd : decode (bt y) pc = .ok (.iinc i n, len)) (hs : stp y (.iinc i n) len pc L st M = some (.inl r)) (k : Kn g p l e R s m args below meth c y M0 Q r) : Kn g p l e R s m args below meth c y M0 Q (pc, L, st, M) := by
  obtain ⟨hx, hb, -, hml, -, -, -, -, -, -, -, -, -, h9⟩ := C
  simp only [stp] at hs
  obtain ⟨rfl, hs2⟩ := gt_some hs
  split at hs2
  · rename_i x hx1
    split at hs2
    · rename_i L2 h2
      obtain ⟨h3, h4, rfl⟩ := iv_st1 h2
      obtain rfl := iv_nx hs2
      intro H locs ls a1 a2 a3 a4
      obtain ⟨q, hq⟩ := List.getElem?_of_mem (asc_mem (g := g) (L := L) (q := (i, .int x)).mpr ⟨.int x, hx1, (fun h => by cases h), rfl⟩)
      exact lv_iinc (v := x + Int32.ofInt n) hx hb hd a3 hq rfl h3 rfl (fun ls2 h5 => k H locs ls2 a1 a2 (lr_s1 h9 h4 h5) (by simpa using a4))
    · cases hs2
  · cases hs2
theorem sn_ifCond {q : Jvm.ClassFile.Cond} {off : Int} (C : cx g p R s m meth c y d args) (hd : decode (bt y) pc = .ok (.ifCond q off, len)) (hs : stp y (.ifCond q off) len pc L st M = some (.inl r)) (k : Kn g p l e R s m args below meth c y M0 Q r) : Kn g p l e R s m args below meth c y M0 Q (pc, L, st, M) := by
  obtain ⟨hx, hb, -, hml, -, -, -, -, -, -, -, -, -, h9⟩ := C
  simp only [stp] at hs
  obtain ⟨⟨rfl, h0⟩, hs2⟩ := gt_some hs
  have ht : (pc : Int) + off = ((((pc : Int) + off).toNat : Nat) : Int) := (Int.toNat_of_nonneg h0).symm
  split at hs2
  · obtain rfl := iv_nx hs2
    intro H locs ls a1 a2 a3 a4
    have h4 := k H locs ls a1 a2 a3 a4
    dsimp only at h4
    cases q
    · refine lv_if_eq hx hb hd ht (fun h => ?_) (fun h => ?_)
      · simpa [mcd, h] using h4
      · simpa [mcd, h] using h4
    · refine lv_if_ne hx hb hd ht (fun h => ?_) (fun h => ?_)
      · simpa [mcd, h] using h4
      · simpa [mcd, h] using h4
    · refine lv_if_lt hx hb hd ht (fun h => ?_) (fun h => ?_)
      · simpa [mcd, h] using h4
      · simpa [mcd, h] using h4
    · refine lv_if_ge hx hb hd ht (fun h => ?_) (fun h => ?_)
      · simpa [mcd, h] using h4
      · simpa [mcd, h] using h4
    · refine lv_if_gt hx hb hd ht (fun h => ?_) (fun h => ?_)
      · simpa [mcd, h] using h4
      · simpa [mcd, h] using h4
    · refine lv_if_le hx hb hd ht (fun h => ?_) (fun h => ?_)
      · simpa [mcd, h] using h4
      · simpa [mcd, h] using h4
  · cases hs2
theorem sn_if_icmp {q : Jvm.ClassFile.Cond} {off : Int} (C : cx g p R s m meth c y d args) (hd : decode (bt y) pc = .ok (.if_icmp q off, len)) (hs : stp y (.if_icmp q off) len pc L st M = some (.inl r)) (k : Kn g p l e R s m args below meth c y M0 Q r) : Kn g p l e R s m args below meth c y M0 Q (pc, L, st, M) := by
  obtain ⟨hx, hb, -, hml, -, -, -, -, -, -, -, -, -, h9⟩ := C
  simp only [stp] at hs
  obtain ⟨⟨rfl, h0⟩, hs2⟩ := gt_some hs
  have ht : (pc : Int) + off = ((((pc : Int) + off).toNat : Nat) : Int) := (Int.toNat_of_nonneg h0).symm
  split at hs2
  · obtain rfl := iv_nx hs2
    intro H locs ls a1 a2 a3 a4
    have h4 := k H locs ls a1 a2 a3 a4
    dsimp only at h4
    cases q
    · refine lv_icmp_eq hx hb hd ht (fun h => ?_) (fun h => ?_)
      · simpa [mcd, h] using h4
      · simpa [mcd, h] using h4
    · refine lv_icmp_ne hx hb hd ht (fun h => ?_) (fun h => ?_)
      · simpa [mcd, h] using h4
      · simpa [mcd, h] using h4
    · refine lv_icmp_lt hx hb hd ht (fun h => ?_) (fun h => ?_)
      · simpa [mcd, h] using h4
      · simpa [mcd, h] using h4
    · refine lv_icmp_ge hx hb hd ht (fun h => ?_) (fun h => ?_)
      · simpa [mcd, h] using h4
      · simpa [mcd, h] using h4
    · refine lv_icmp_gt hx hb hd ht (fun h => ?_) (fun h => ?_)
      · simpa [mcd, h] using h4
      · simpa [mcd, h] using h4
    · refine lv_icmp_le hx hb hd ht (fun h => ?_) (fun h => ?_)
      · simpa [mcd, h] using h4
      · simpa [mcd, h] using h4
  · cases hs2
theorem sn_goto {off : Int} (C : cx g p R s m meth c y d args) (hd : decode (bt y) pc = .ok (.goto off, len)) (hs : stp y (.goto off) len pc L st M = some (.inl r)) (k : Kn g p l e R s m args below meth c y M0 Q r) : Kn g p l e R s m args below meth c y M0 Q (pc, L, st, M) := by
  obtain ⟨hx, hb, -, hml, -, -, -, -, -, -, -, -, -, h9⟩ := C
  obtain ⟨rfl, hs2⟩ := gt_some (show (if len = 3 then mjmp pc off L st M else none) = some (.inl r) from hs)
  obtain ⟨h1, rfl⟩ := iv_jmp hs2
  intro H locs ls a1 a2 a3 a4
  exact lv_goto hx hb hd h1 (k H locs ls a1 a2 a3 a4)
theorem iv_sw {f : Int → Option Int} (h : msw pc f L st M = some (.inl r)) : ∃ x st2 off, st = .int x :: st2 ∧ f x.toInt = some off ∧ (pc : Int) + off = ((((pc : Int) + off).toNat : Nat) : Int) ∧ r = (((pc : Int) + off).toNat, L, st2, M) := by
  unfold msw at h
  split at h
  · split at h
    · obtain ⟨h1, h2⟩ := iv_jmp h
      exact ⟨_, _, _, rfl, by assumption, h1, h2⟩
    · cases h
  · cases h
theorem sn_tableswitch {q lo hi : Int} {os : Array Int} (C : cx g p R s m meth c y d args) (hd : decode (bt y) pc = .ok (.tableswitch q lo hi os, len)) (hs : stp y (.tableswitch q lo hi os) len pc L st M = some (.inl r)) (k : Kn g p l e R s m args below meth c y M0 Q r) : Kn g p l e R s m args below meth c y M0 Q (pc, L, st, M) := by
  obtain ⟨hx, hb, -, hml, -, -, -, -, -, -, -, -, -, h9⟩ := C
  obtain ⟨x, st2, off, rfl, h1, h2, rfl⟩ := iv_sw (show msw pc (fun x => if x < lo ∨ hi < x then some q else os[(x - lo).toNat]?) L st M = some (.inl r) from hs)
  intro H locs ls a1 a2 a3 a4
  by_cases hc : x.toInt < lo ∨ hi < x.toInt
  · simp only [if_pos hc] at h1
    obtain rfl := Option.some.inj h1
    exact lv_tableOut hx hb hd hc h2 (k H locs ls a1 a2 a3 a4)
  · simp only [if_neg hc] at h1
    exact lv_tableIn hx hb hd (fun h => hc (Or.inl h)) (fun h => hc (Or.inr h)) h1 h2 (k H locs ls a1 a2 a3 a4)
theorem sn_lookupswitch {q : Int} {ps : Array (Int × Int)} (C : cx g p R s m meth c y d args) (hd : decode (bt y) pc = .ok (.lookupswitch q ps, len)) (hs : stp y (.lookupswitch q ps) len pc L st M = some (.inl r)) (k : Kn g p l e R s m args below meth c y M0 Q r) : Kn g p l e R s m args below meth c y M0 Q (pc, L, st, M) := by
  obtain ⟨hx, hb, -, hml, -, -, -, -, -, -, -, -, -, h9⟩ := C
  obtain ⟨hp, hs⟩ := gt_some (show (if (ps.toList.zip (ps.toList.drop 1)).all (fun (a, next) => a.1 < next.1) = true then msw pc (fun x => some (Op.lookupswitch.offset ps.toList q x)) L st M else none) = some (.inl r) from hs)
  obtain ⟨x, st2, off, rfl, h1, h2, rfl⟩ := iv_sw hs
  intro H locs ls a1 a2 a3 a4
  exact lv_lookup hx hb hd hp (Option.some.inj h1) h2 (k H locs ls a1 a2 a3 a4)
end SNA
