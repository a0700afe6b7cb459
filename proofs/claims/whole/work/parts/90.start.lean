/-! THE CLAIM OUT OF ONE WALK OF THE LAW'S BODY. Your part is whole_start (and what it stands on); all else here is the same for every law, but numbers. -/
def R_law : String := "ThrownBackLaw"
def lw_P (b : Addr) (xs : List Int32) (args : Array Value) (s : State) : Prop := args = #[.ref b] ∧ s.IntsAt b xs ∧ xs.length ≤ 3584 ∧ (Jvm.Cond.and given_1 narrow_1).before args s = true
def lw_Q (_ : Array Value) (s : State) (o : Outcome) (t : State) : Prop := o = .returned (some (.int 1)) ∧ Framed s o t [] 600000 7302250
def lw_Z (below : List Frame) (a : Array Value) (s : State) : State → Prop := fun t => ∃ o, t.status = .running ∧ Ended t below o ∧ lw_Q a s o t
/-- the law's own end, with 1 on the stack, nothing written that was there before, its room as the claim has it -/
theorem lw_ret {p : Program} {l : Launch} {e : Env} {s : State} {m : MethodId} {below : List Frame} {meth : Method} {c : Code} {b : Nat} (hx : p.tables.exec = Jvm.exec) (hb : c.code = code) (hr : meth.sig.returnType = ret) (hlocks : meth.locks = false) {pc : Nat} {H : Heap} {ls : Array Slot} (hdg : decode code pc = .ok (.ireturn, 1)) : W p l e room_1 s m #[Value.ref b] below meth c H [] 600000 7302250 (lw_Z below #[Value.ref b] s) (F0 m pc ls [.int 1]) := by
  intro T hT X
  obtain ⟨fs, hret, hrun, hended, hW, hframe⟩ := X.leave (v := some (.int 1)) (hlocks := hlocks) (fun h => by rw [hr] at h; cases h)
  have hmeth' : T.vm.method? m = some meth := X.method'
  refine ⟨T.setFrames fs, ?_, .returned (some (.int 1)), hrun, hended, rfl, ⟨_, rfl⟩, hW, hframe⟩
  jvm_step X.here [X.here.top, hx, hb, hdg, hmeth', hr, ret, narrow_b1]
  (try refine ⟨rfl, ?_⟩); (try refine ⟨rfl, ?_⟩)
  first | (intro acts; rw [hret _ acts rfl rfl rfl]) | rw [hret _ _ rfl rfl rfl]
  exact Steps.refl _
/-- what holds at the law's entry: the machine, the code, the tables' words (any of lw_tbl by 'hts w (by decide +kernel)'), the script of L ints xs at the cell b, what the Statement gives of the start (any of its parts by flat_of_before) -/
def lw_At (p : Program) (s : State) (m : MethodId) (meth : Method) (c : Code) (b L : Nat) (xs : Nat → Int32) : Prop :=
  p.tables.exec = Jvm.exec ∧ c.code = code ∧ meth.sig.returnType = ret ∧ c.maxLocals = 4 ∧ s.vm.findClass R_law = some m.cls ∧ (∀ w ∈ lw_tbl, w.before #[Value.ref b] s = true) ∧ va_X b L xs s s.heap ∧ b < s.heap.size ∧ meth.locks = false ∧ (Jvm.Cond.and given_1 narrow_1).before #[Value.ref b] s = true
-- ===== YOUR PART BEGINS =====
theorem w_ini : ∀ a, a < 8 → Cond.instantiable (cn a) (nNN a) ∈ WS := by
  have h := ws_of [.instantiable "ThrownBack$Law" 4, .instantiable "ThrownBack$Lots" 1, .instantiable "ThrownBack$Owner" 9, .instantiable "ThrownBack$Reader" 7, .instantiable "ThrownBack$Road" 11, .instantiable "ThrownBack$Sheet" 3, .instantiable "ThrownBack" 9, .instantiable "ThrownBackModel" 42] [218, 209, 89, 176, 82, 236, 74, 861] (by decide +kernel) (by decide +kernel)
  intro a ha
  match a, ha with
  | 0, _ => exact h _ (List.mem_of_getElem? (i := 0) rfl)
  | 1, _ => exact h _ (List.mem_of_getElem? (i := 1) rfl)
  | 2, _ => exact h _ (List.mem_of_getElem? (i := 2) rfl)
  | 3, _ => exact h _ (List.mem_of_getElem? (i := 3) rfl)
  | 4, _ => exact h _ (List.mem_of_getElem? (i := 4) rfl)
  | 5, _ => exact h _ (List.mem_of_getElem? (i := 5) rfl)
  | 6, _ => exact h _ (List.mem_of_getElem? (i := 6) rfl)
  | 7, _ => exact h _ (List.mem_of_getElem? (i := 7) rfl)
  | a + 8, ha => exact absurd ha (by omega)
abbrev sT (i : Nat) : Term := match i with
  | 0 => .string "ThrownBack" 50
  | 1 => .string "ThrownBack$Reader" 95
  | _ => .string "ThrownBack$Reader" 109
theorem f_put : ∀ j, j < 5 → Cond.eq (.elem (.static "ThrownBack" "MOST_PUT" "[I") (.int (Int32.ofNat j))) (.int ((rot 0).getD j 0)) ∈ flatC (Jvm.Cond.and given_1 narrow_1) := by decide +kernel
theorem f_kab : ∀ j, j < 6 → Cond.eq (.elem (.static "ThrownBack$Owner" "KIND_ABOVE" "[I") (.int (Int32.ofNat j))) (.int ((rot 1).getD j 0)) ∈ flatC (Jvm.Cond.and given_1 narrow_1) := by decide +kernel
theorem f_misc : ∀ w ∈ ([.arrayOf (.static "ThrownBack" "MOST_PUT" "[I") .int, .eq (.length (.static "ThrownBack" "MOST_PUT" "[I")) (.int (Int32.ofNat 5)), .arrayOf (.static "ThrownBack$Owner" "KIND_ABOVE" "[I") .int, .eq (.length (.static "ThrownBack$Owner" "KIND_ABOVE" "[I")) (.int (Int32.ofNat 6)), .eq (.static "java/lang/String" "COMPACT_STRINGS" "Z") (.int 1), .isRef (.static "jdk/internal/util/Preconditions" "SIOOBE_FORMATTER" "Ljava/util/function/BiFunction;")] : List Cond), w ∈ flatC (Jvm.Cond.and given_1 narrow_1) := by decide +kernel
theorem f_str : ∀ i, i < 3 → (Cond.exactly (sT i) "java/lang/String" ∈ flatC (Jvm.Cond.and given_1 narrow_1) ∧ Cond.eq (.field (sT i) "java/lang/String" "coder" "B") (.int 0) ∈ flatC (Jvm.Cond.and given_1 narrow_1) ∧ Cond.arrayOf (.field (sT i) "java/lang/String" "value" "[B") .byte ∈ flatC (Jvm.Cond.and given_1 narrow_1) ∧ Cond.eq (.length (.field (sT i) "java/lang/String" "value" "[B")) (.int (Int32.ofNat ([ron 0, ron 1, ron 2].getD i 0))) ∈ flatC (Jvm.Cond.and given_1 narrow_1)) := by decide +kernel
theorem f_s0 : ∀ j, j < ron 0 → Cond.eq (.elem (.field (sT 0) "java/lang/String" "value" "[B") (.int (Int32.ofNat j))) (.int ((roS 0).getD j 0)) ∈ flatC (Jvm.Cond.and given_1 narrow_1) := by decide +kernel
theorem f_s1 : ∀ j, j < ron 1 → Cond.eq (.elem (.field (sT 1) "java/lang/String" "value" "[B") (.int (Int32.ofNat j))) (.int ((roS 1).getD j 0)) ∈ flatC (Jvm.Cond.and given_1 narrow_1) := by decide +kernel
theorem f_s2 : ∀ j, j < ron 2 → Cond.eq (.elem (.field (sT 2) "java/lang/String" "value" "[B") (.int (Int32.ofNat j))) (.int ((roS 2).getD j 0)) ∈ flatC (Jvm.Cond.and given_1 narrow_1) := by decide +kernel
theorem f_ne : ∀ i j, i < 3 → j < 3 → i ≠ j → (Cond.not (Cond.eq (sT i) (sT j)) ∈ flatC (Jvm.Cond.and given_1 narrow_1) ∨ Cond.not (Cond.eq (sT j) (sT i)) ∈ flatC (Jvm.Cond.and given_1 narrow_1)) := by
  have h : ∀ i, i < 3 → ∀ j, j < 3 → i ≠ j → (Cond.not (Cond.eq (sT i) (sT j)) ∈ flatC (Jvm.Cond.and given_1 narrow_1) ∨ Cond.not (Cond.eq (sT j) (sT i)) ∈ flatC (Jvm.Cond.and given_1 narrow_1)) := by decide +kernel
  exact fun i j hi hj => h i hi j hj
set_option maxHeartbeats 4000000 in
set_option maxRecDepth 20000 in
theorem whole_start {p : Program} {e : Env} {s : State} {m : MethodId} {below : List Frame} {meth : Method} {c : Code} (l : Launch) (hflags : l.flags = flags0) {b L : Nat} {xs : Nat → Int32} (hL : L ≤ 3584) (C0 : lw_At p s m meth c b L xs) : W p l e room_1 s m #[Value.ref b] below meth c s.heap [] 0 0 (lw_Z below #[Value.ref b] s) (entryFrame m ([Value.ref b] : List Value).toArray 4) := by
  obtain ⟨hx, hb, hr, hml, hown, hts, hX, hbl, hlocks, hgv⟩ := C0
  have htw : ∀ w ∈ WS, w.before #[Value.ref b] s = true := fun w hw => hts w (List.mem_filter.mp hw).1
  have hfl := flat_of_before _ hgv
  -- the classes
  have hc0 : ∀ k, ∃ q : ClassId × (Nat → Nat), k < 8 → u_Kn s (cn k) (nTT k) (nNN k) q.1 q.2 := by
    intro k
    by_cases hk : k < 8
    · obtain ⟨cC, iS, h⟩ := u_known htw (cl_in hk) (htw _ (w_ini k hk))
      exact ⟨(cC, iS), fun _ => h⟩
    · exact ⟨(0, fun _ => 0), fun h => absurd h hk⟩
  obtain ⟨qC, hqC⟩ := Classical.axiomOfChoice hc0
  obtain ⟨cI, kI, pI, i1, i2, i3⟩ := Cond.arrayClass_spec (htw _ ws_arrI)
  have ho1 : (Cond.arrayOver (.object "ThrownBack$Law")).before #[Value.ref b] s = true := hts _ (List.mem_of_getElem? (i := 205) (by decide +kernel))
  have ho2 : (Cond.arrayOver (.object "ThrownBack$Owner")).before #[Value.ref b] s = true := hts _ (List.mem_of_getElem? (i := 88) (by decide +kernel))
  have ho3 : (Cond.arrayOver (.object "ThrownBack$Sheet")).before #[Value.ref b] s = true := hts _ (List.mem_of_getElem? (i := 207) (by decide +kernel))
  obtain ⟨p1, c1, k1, a11, -, a12, a13, a14⟩ := Cond.arrayOver_spec ho1
  obtain ⟨p2, c2, k2, a21, -, a22, a23, a24⟩ := Cond.arrayOver_spec ho2
  obtain ⟨p3, c3, k3, a31, -, a32, a33, a34⟩ := Cond.arrayOver_spec ho3
  -- what lies outside
  have hA0 : ∀ a : Nat, a < s.heap.size → ¬ s.heap.size ≤ a := fun a h => Nat.not_le.mpr h
  obtain ⟨t1, e1, hT1⟩ := va_Tof (tm := .static "ThrownBack" "MOST_PUT" "[I") (ty := .int) (N := 5) (f := fun j => .int ((rot 0).getD j 0)) (A := fun q => s.heap.size ≤ q) (by decide) (hfl _ (f_misc _ (by simp))) (va_eqt (hfl _ (f_misc _ (by simp)))) (fun j hj => va_eqt (hfl _ (f_put j hj))) hA0
  obtain ⟨t2, e2, hT2⟩ := va_Tof (tm := .static "ThrownBack$Owner" "KIND_ABOVE" "[I") (ty := .int) (N := 6) (f := fun j => .int ((rot 1).getD j 0)) (A := fun q => s.heap.size ≤ q) (by decide) (hfl _ (f_misc _ (by simp))) (va_eqt (hfl _ (f_misc _ (by simp)))) (fun j hj => va_eqt (hfl _ (f_kab j hj))) hA0
  have hZ1 := va_Zof (A := fun q => s.heap.size ≤ q) (hts (.laysStatic "ThrownBack" "MOST_PUT" "[I") (List.mem_of_getElem? (i := 555) (by decide +kernel))) (hts (.initialized "ThrownBack") (List.mem_of_getElem? (i := 58) (by decide +kernel))) e1 hA0
  have hZ2 := va_Zof (A := fun q => s.heap.size ≤ q) (hts (.laysStatic "ThrownBack$Owner" "KIND_ABOVE" "[I") (List.mem_of_getElem? (i := 859) (by decide +kernel))) (hts (.initialized "ThrownBack$Owner") (List.mem_of_getElem? (i := 60) (by decide +kernel))) e2 hA0
  have hZ3 := va_Zof (v := .int 1) (A := fun q => s.heap.size ≤ q) (hts (.laysStatic "java/lang/String" "COMPACT_STRINGS" "Z") (List.mem_of_getElem? (i := 265) (by decide +kernel))) (hts (.initialized "java/lang/String") (List.mem_of_getElem? (i := 65) (by decide +kernel))) (va_eqi (hfl _ (f_misc _ (by simp)))) hA0
  have hZ4 := va_Zqof (A := fun q => s.heap.size ≤ q) (hts (.laysStatic "jdk/internal/util/Preconditions" "SIOOBE_FORMATTER" "Ljava/util/function/BiFunction;") (List.mem_of_getElem? (i := 281) (by decide +kernel))) (hts (.initialized "jdk/internal/util/Preconditions") (List.mem_of_getElem? (i := 67) (by decide +kernel))) (hfl _ (f_misc _ (by simp))) hA0
  obtain ⟨adK, adV, hSS, hSe⟩ := vk_Sof (N := 3) (tm := sT) (len := [ron 0, ron 1, ron 2]) (byt := [roS 0, roS 1, roS 2]) (A := fun q => s.heap.size ≤ q) (args := #[Value.ref b]) (s := s)
    (by decide) (fun i hi => hfl _ (f_str i hi).1) (fun i hi => hfl _ (f_str i hi).2.1) (fun i hi => hfl _ (f_str i hi).2.2.1) (fun i hi => hfl _ (f_str i hi).2.2.2)
    (fun i hi j hj => by
      match i, hi with
      | 0, _ => exact hfl _ (f_s0 j hj)
      | 1, _ => exact hfl _ (f_s1 j hj)
      | 2, _ => exact hfl _ (f_s2 j hj)
      | i + 3, h => exact absurd h (by omega))
    (fun i j hi hj hij => (f_ne i j hi hj hij).imp (hfl _) (hfl _)) hA0
  obtain ⟨o9, h9, hZ9⟩ : ∃ o9 : Value, (o9 = .null ∨ ∃ a, o9 = .ref a) ∧ va_Z "jdk/internal/util/Preconditions" "SIOOBE_FORMATTER" "Ljava/util/function/BiFunction;" o9 (fun q => s.heap.size ≤ q) s s.heap := by
    rcases hZ4 with h | ⟨t, h⟩
    · exact ⟨.null, Or.inl rfl, h⟩
    · exact ⟨.ref t, Or.inr ⟨t, rfl⟩, h⟩
  let gO' : Nat → Nat := fun j => if j = 0 then b else if j = 1 then t1 else if j = 2 then t2 else if j < 6 then adK (j - 3) else adV (j - 6)
  let cA' : Nat → ClassId := fun j => if j = 9 then cI else if j = 0 then c1 else if j = 2 then c2 else c3
  let g : mG := (s.heap.size, gO', o9, fun k => (qC k).1, fun k => (qC k).2, cA', L, xs)
  have hG3 : ∀ i, i < 3 → gO g (3 + i) = adK i := by
    intro i hi
    show (if 3 + i = 0 then b else if 3 + i = 1 then t1 else if 3 + i = 2 then t2 else if 3 + i < 6 then adK (3 + i - 3) else adV (3 + i - 6)) = _
    rw [if_neg (by omega), if_neg (by omega), if_neg (by omega), if_pos (by omega), Nat.add_sub_cancel_left]
  have hG6 : ∀ i, i < 3 → gO g (6 + i) = adV i := by
    intro i hi
    show (if 6 + i = 0 then b else if 6 + i = 1 then t1 else if 6 + i = 2 then t2 else if 6 + i < 6 then adK (6 + i - 3) else adV (6 + i - 6)) = _
    rw [if_neg (by omega), if_neg (by omega), if_neg (by omega), if_neg (by omega), Nat.add_sub_cancel_left]
  have hK : va_K (gD g) mcl (tysm g) s := by
    refine ⟨fun k q hq => ?_, fun k q hq => ?_⟩
    · have hk : k < 8 := (List.getElem?_eq_some_iff.mp hq).1
      rw [cl_at hk] at hq
      cases hq
      exact hqC k hk
    · have hk : k < 4 := (List.getElem?_eq_some_iff.mp hq).1
      obtain rfl | rfl | rfl | rfl : k = 0 ∨ k = 1 ∨ k = 2 ∨ k = 3 := by omega
      · cases hq; exact ⟨fun n z => ⟨fun k h => (by cases h), kI, i2, pI, i3⟩, i1⟩
      · cases hq; exact ⟨fun n z => ⟨fun k h => (by cases h), k1, a12, p1, a13⟩, k1, p1, a12, a13, a11, a14⟩
      · cases hq; exact ⟨fun n z => ⟨fun k h => (by cases h), k2, a22, p2, a23⟩, k2, p2, a22, a23, a21, a24⟩
      · cases hq; exact ⟨fun n z => ⟨fun k h => (by cases h), k3, a32, p3, a33⟩, k3, p3, a32, a33, a31, a34⟩
  have hTX : va_T .int b L (fun j => .int (xs j)) (fun q => s.heap.size ≤ q) s s.heap := by
    obtain ⟨scr, x1, x2, x3, x4, x5⟩ := hX
    exact ⟨scr, x1, x2, x3, Nat.le_of_eq x4.symm, by rw [x4], x5, hA0 b hbl⟩
  have hR0 := hSe 0 (by decide)
  have hR1 := hSe 1 (by decide)
  have hR2 := hSe 2 (by decide)
  have e3 : gO g 3 = adK 0 := hG3 0 (by decide)
  have e4 : gO g 4 = adK 1 := hG3 1 (by decide)
  have e5 : gO g 5 = adK 2 := hG3 2 (by decide)
  have hF : rof g s s.heap := by
    refine ⟨hTX, hZ1, hT1, hZ2, hT2, hZ3, hZ9, ⟨fun i hi => ?_, fun i j hi hj h => ?_⟩, ⟨?_, ?_, ?_⟩, ⟨va_AO.of ho1, va_AO.of ho2, va_AO.of ho3⟩, ?_⟩
    · dsimp only
      rw [hG3 i hi, hG6 i hi]
      exact hSS.1 i hi
    · dsimp only at h
      rw [hG3 i hi, hG3 j hj] at h
      exact hSS.2 i j hi hj h
    · rw [e3]
      exact vk_R.of (hts (.stringRef "ThrownBack" 50 (rotx 0)) (List.mem_of_getElem? (i := 255) (by decide +kernel))) hR0
    · rw [e4]
      exact vk_R.of (hts (.stringRef "ThrownBack$Reader" 95 (rotx 1)) (List.mem_of_getElem? (i := 330) (by decide +kernel))) hR1
    · rw [e5]
      exact vk_R.of (hts (.stringRef "ThrownBack$Reader" 109 (rotx 2)) (List.mem_of_getElem? (i := 348) (by decide +kernel))) hR2
    · exact ⟨va_Nw.of rfl (hts (.methodLinkNest "ThrownBack$Road" 36 ⟨"ThrownBack$Owner", "<init>", "()V"⟩ "ThrownBack") (List.mem_of_getElem? (i := 90) (by decide +kernel))), va_Nw.of rfl (hts (.methodLinkNest "ThrownBack" 24 ⟨"ThrownBack$Reader", "<init>", "()V"⟩ "ThrownBack") (List.mem_of_getElem? (i := 177) (by decide +kernel))), va_Nw.of rfl (hts (.methodLinkNest "ThrownBack" 43 ⟨"ThrownBack$Lots", "<init>", "()V"⟩ "ThrownBack") (List.mem_of_getElem? (i := 210) (by decide +kernel))), va_Nw.of rfl (hts (.methodLinkNest "ThrownBack" 48 ⟨"ThrownBack$Law", "<init>", "()V"⟩ "ThrownBack") (List.mem_of_getElem? (i := 219) (by decide +kernel))), va_Nw.of rfl (hts (.methodLinkNest "ThrownBack" 49 ⟨"ThrownBack$Sheet", "<init>", "()V"⟩ "ThrownBack") (List.mem_of_getElem? (i := 237) (by decide +kernel)))⟩
  obtain ⟨n, M2, hrun, hM2⟩ := pure_law g hL
  have hcx : cx g p room_1 s m meth c 0 100 #[Value.ref b] := ⟨hx, hb, hr, hml, hown, htw, hlocks, fun h => absurd h (by decide), hK, hF, by decide, by decide, Nat.le_refl _, h9⟩
  have hk := (snd_run g l h9 n 100 0 0 _ _ _ _ _ hrun).2 (e := e) (below := below) (M0 := 0) (Q := lw_Z below #[Value.ref b] s) hcx rfl (Nat.le_refl _) (by show M2.1 - 0 ≤ 600000; omega) (by show 1200 * (M2.1 - 0) ≤ 7302250; omega) (fun pc' len ins L' st' hd hs => by
    obtain ⟨rfl, h⟩ := stp_ret hs
    rcases h with ⟨rfl, x, ty, rfl, f1, f2, f3⟩ | ⟨rfl, x, rfl, f1, f2⟩ | ⟨rfl, rfl, f1, f2⟩
    · cases f3
      intro H locs ls a1 a2 a3 a4
      refine va_forget (fun q hq => a2.2.2 q hq) ?_
      refine W.widen (k := 600000) (n := 7302250) (by show M2.1 - 0 ≤ 600000; omega) (by show 1200 * (M2.1 - 0) ≤ 7302250; omega) ?_
      exact lw_ret hx hb hr hlocks hd
    · cases f2
    · cases f2)
  rw [lg_entry_eq]
  have hent := lv_entry ([Value.ref b]) (n := 4) (Nat.le_of_ble_eq_true rfl)
  have hrv : rv g (.ref 1000) = .ref b := rv_o2 (j := 0) (by decide) (by decide) rfl
  have hlr : lr g ((lg_sl ([Value.ref b]) ++ List.replicate (4 - (lg_sl ([Value.ref b])).length) Slot.unset).toArray) [.ref 1000, .null, .null, .null] := by
    refine ⟨hent.1, hent.2.1, fun q hq => hent.2.2 q ?_⟩
    have h5 : asc g [.ref 1000, .null, .null, .null] = [(0, rv g (.ref 1000))] := rfl
    rw [h5, hrv] at hq
    exact hq
  have h6 := hk s.heap [] _ ⟨fun k hk => absurd hk (Nat.not_lt_zero _), fun k _ => rfl, Nat.zero_le _, fun k q h => by simp [wo] at h⟩ va_S.rf hlr rfl
  exact h6
-- ===== YOUR PART ENDS =====
set_option maxHeartbeats 4000000 in
theorem lw_walk (l : Launch) (hflags : l.flags = flags0) (b : Addr) (xs : List Int32) : MetFree l x (headSpec (Jvm.Cond.code x code maxLocals ret :: tables_1) room_1) (lw_P b xs) (fun _ _ _ _ _ => True) lw_Q := by
  refine MetFree.of_bodyS (code := code) (maxLocals := maxLocals) (ret := ret) (by decide) ?_ ?_
  · intro args s m h hn
    obtain ⟨meth, c, h1, h2, h3, h4, h5, h6, -, -⟩ := Cond.code_spec hn (atoms_spec (ws := Jvm.Cond.code x code maxLocals ret :: tables_1) h _ List.mem_cons_self)
    exact ⟨meth, c, h1, h2, h3, h4, h5, h6⟩
  · intro p e s m args below meth c s₁ B hml0 hP _
    obtain ⟨rfl, hx, hbd, hgv⟩ := hP
    obtain ⟨scr, harrAt, hlist, hof, hsmall⟩ := hx
    obtain ⟨hcb, hkn, -, -⟩ := State.arrayAt?_spec harrAt
    have hown : s.vm.findClass R_law = some m.cls := findClass_of_methodNamed B.named
    have hts0 : ∀ c ∈ (Jvm.Cond.code x code maxLocals ret :: tables_1), c.before #[Value.ref b] s = true := atoms_spec (ws := Jvm.Cond.code x code maxLocals ret :: tables_1) B.pre
    have hts : ∀ w ∈ lw_tbl, w.before #[Value.ref b] s = true := k2_hts_sels lw_privs (fun w hw => hts0 w (List.mem_cons_of_mem _ hw)) lw_privs_ok
    have hml : c.maxLocals = 4 := B.maxLocals_eq (hts0 _ List.mem_cons_self)
    have X₀ : Stand p l e room_1 s m #[Value.ref b] below meth c s₁ [] 0 0 := Stand.of_body B
    have hh0 : s₁.heap = s.heap := by rw [B.state]; rfl
    have hsz : scr.slots.size = xs.length := by rw [← Array.length_toList, hlist, List.length_map]
    have hval : ∀ j : Nat, j < xs.length → scr.slots[j]? = some (.int (xs.getD j 0)) := fun j hj => by
      rw [← Array.getElem?_toList, hlist]
      simp [hj]
    have hbl : b < s.heap.size := (Array.getElem?_eq_some_iff.mp hcb).1
    have hX : va_X b xs.length (fun j => xs.getD j 0) s s.heap := ⟨scr, hcb, hof, hkn, hsz, hval⟩
    have K : W p l e room_1 s m #[Value.ref b] below meth c s₁.heap [] 0 0 (lw_Z below #[Value.ref b] s) (entryFrame m ([Value.ref b] : List Value).toArray 4) := by
      rw [hh0]
      exact whole_start l hflags hbd ⟨B.exec, B.bytes, B.returns, hml, hown, hts, hX, hbl, B.notSynchronized, hgv⟩
    obtain ⟨t, a1, o, b1, b2, b3⟩ := K s₁ rfl X₀
    exact ⟨t, o, a1, b1, b2, b3⟩
theorem lw_pre_spec {args : Array Value} {s : State} (h : (Jvm.Cond.and given_1 narrow_1).before args s = true) (hr : rest_1_c.before args s = true) : ∃ (b : Addr) (xs : List Int32), lw_P b xs args s := by
  have hs := flat_of_before _ h
  have hq := flat_of_before _ hr
  have hc : (Cond.count 1).before args s = true := hs _ (by decide +kernel)
  have harr : (Cond.arrayOf (.arg 0) .int).before args s = true := hs _ (by decide +kernel)
  have hle : (Cond.le (.length (.arg 0)) (.int 3584)).before args s = true := hs _ (by decide +kernel)
  have hlen : (Cond.isInt (.length (.arg 0))).before args s = true := hq _ (by decide +kernel)
  have hall : (Cond.all (.arg 0) (.isInt (.elem (.arg 0) (.index 0)))).before args s = true := hq _ (by decide +kernel)
  obtain ⟨b, xs, hb, hx⟩ := State.ints_of_pre rfl harr hlen hall
  have hsm : xs.length < 2 ^ 31 := hx.choose_spec.2.2.2
  have hev : (Term.length (.arg 0)).eval args s none [] s = some (.int xs.length.toInt32) := hx.length_eval hb
  have hv := Cond.le_ints hev (show (Term.int 3584).eval args s none [] s = some (.int 3584) from rfl)
  have hd : xs.length.toInt32 ≤ 3584 := by
    simpa [Cond.before, Cond.holds, hv] using hle
  have hN : xs.length ≤ 3584 := (Int32.ofNat_le_ofNat hsm (by decide)).mp (show Int32.ofNat xs.length ≤ Int32.ofNat 3584 from hd)
  exact ⟨b, xs, Cond.one_arg hc (show args[0]? = some (.ref b) from hb), hx, hN, h⟩
theorem lw_comes (l : Launch) (hflags : l.flags = flags0) : Comes l x (Jvm.Cond.code x code maxLocals ret :: tables_1) room_1 (fun tb e args s => Calls_1 tb e args s ∧ rest_1 tb e args s ∧ Pre_1 tb e args s)
    (fun _ _ args s o t => lw_Q args s o t) := by
  intro p e ha hc hk s m args below hf hfit hheap happ hpre
  obtain ⟨b, xs, hP⟩ := lw_pre_spec hpre.2.2 hpre.2.1
  obtain ⟨k, o, h1, h2, h3, hQ⟩ := lw_walk l hflags b xs p e ha hc hk s m args below hf ((Spec.applies_iff_loose hf).mp happ).1 hP trivial
  exact ⟨k, o, h1, h2, h3, hQ⟩
theorem lw_frame {s t : State} {o : Outcome} {args : Array Value} (h : Framed s o t [] 600000 7302250) :
    Framed s o t (fieldLocs frame_1_writes args s ++ arrayLocs frame_1_arrays args s ++ staticLocs frame_1_statics s) 600000 7302250 := h
theorem lw_limb (L : Cond) (hL : ∀ (args : Array Value) (s t : State), L.after args s (.returned (some (.int 1))) t = true) :
    ArmFor flags0 classFile x code maxLocals ret World_1 tables_1 room_1 Calls_1 rest_1 Pre_1
      (fun tb e a s o t => postC L tb e a s o t ∧ Framed s o t (fieldLocs frame_1_writes a s ++ arrayLocs frame_1_arrays a s ++ staticLocs frame_1_statics s) 600000 7302250) := by
  intro l hflags _ _ p e ha hc hk s m args below hf hfit hheap happ hpre
  obtain ⟨k, o, h1, h2, h3, rfl, hF⟩ := lw_comes l hflags p e ha hc hk s m args below hf hfit hheap happ hpre
  exact ⟨k, _, h1, h2, h3, hL args s _, lw_frame hF⟩
theorem i_vc : Claimed_1_1 ∧ Claimed_1_2 := ⟨lw_limb limb_1_1 (fun args s t => by simp [limb_1_1, Cond.after, Cond.holds, Cond.value]), lw_limb limb_1_2 (fun args s t => Cond.after_iff.mpr (by
  first | (rw [show limb_1_2 = Cond.eq .result (.int 1) from rfl, Cond.eq_ints (x := 1) (y := 1) rfl rfl]; simp; done) | (simp [limb_1_2, Cond.value, Term.eval]; done)))⟩
