/-! CALLS, RETURNS, AND WHOLE RUNS OF THE SMALL MACHINE (wip/whole/gen8.py) -/
theorem z_ok : ∀ z, z < 212 → 0 < z → (plainFor (myn z) = true ∧ ((myn z).cls ≠ "java/lang/invoke/MethodHandle" ∧ (myn z).cls ≠ "java/lang/invoke/VarHandle") ∧ cn (mow z) = (myn z).cls ∧ mml z ≤ 45) := by decide +kernel
theorem cwd_in {z : Nat} (h0 : 0 < z) (h : z < 212) : cwd z ∈ WS := by
  match z, h0, h with
  | 1, _, _ => exact cwd_1 _ (List.mem_of_getElem? (i := 0) rfl)
  | 2, _, _ => exact cwd_1 _ (List.mem_of_getElem? (i := 1) rfl)
  | 3, _, _ => exact cwd_1 _ (List.mem_of_getElem? (i := 2) rfl)
  | 4, _, _ => exact cwd_1 _ (List.mem_of_getElem? (i := 3) rfl)
  | 5, _, _ => exact cwd_1 _ (List.mem_of_getElem? (i := 4) rfl)
  | 6, _, _ => exact cwd_1 _ (List.mem_of_getElem? (i := 5) rfl)
  | 7, _, _ => exact cwd_1 _ (List.mem_of_getElem? (i := 6) rfl)
  | 8, _, _ => exact cwd_1 _ (List.mem_of_getElem? (i := 7) rfl)
  | 9, _, _ => exact cwd_1 _ (List.mem_of_getElem? (i := 8) rfl)
  | 10, _, _ => exact cwd_1 _ (List.mem_of_getElem? (i := 9) rfl)
  | 11, _, _ => exact cwd_1 _ (List.mem_of_getElem? (i := 10) rfl)
  | 12, _, _ => exact cwd_1 _ (List.mem_of_getElem? (i := 11) rfl)
  | 13, _, _ => exact cwd_13 _ (List.mem_of_getElem? (i := 0) rfl)
  | 14, _, _ => exact cwd_13 _ (List.mem_of_getElem? (i := 1) rfl)
  | 15, _, _ => exact cwd_13 _ (List.mem_of_getElem? (i := 2) rfl)
  | 16, _, _ => exact cwd_13 _ (List.mem_of_getElem? (i := 3) rfl)
  | 17, _, _ => exact cwd_13 _ (List.mem_of_getElem? (i := 4) rfl)
  | 18, _, _ => exact cwd_13 _ (List.mem_of_getElem? (i := 5) rfl)
  | 19, _, _ => exact cwd_13 _ (List.mem_of_getElem? (i := 6) rfl)
  | 20, _, _ => exact cwd_13 _ (List.mem_of_getElem? (i := 7) rfl)
  | 21, _, _ => exact cwd_13 _ (List.mem_of_getElem? (i := 8) rfl)
  | 22, _, _ => exact cwd_13 _ (List.mem_of_getElem? (i := 9) rfl)
  | 23, _, _ => exact cwd_13 _ (List.mem_of_getElem? (i := 10) rfl)
  | 24, _, _ => exact cwd_13 _ (List.mem_of_getElem? (i := 11) rfl)
  | 25, _, _ => exact cwd_25 _ (List.mem_of_getElem? (i := 0) rfl)
  | 26, _, _ => exact cwd_25 _ (List.mem_of_getElem? (i := 1) rfl)
  | 27, _, _ => exact cwd_25 _ (List.mem_of_getElem? (i := 2) rfl)
  | 28, _, _ => exact cwd_25 _ (List.mem_of_getElem? (i := 3) rfl)
  | 29, _, _ => exact cwd_25 _ (List.mem_of_getElem? (i := 4) rfl)
  | 30, _, _ => exact cwd_25 _ (List.mem_of_getElem? (i := 5) rfl)
  | 31, _, _ => exact cwd_25 _ (List.mem_of_getElem? (i := 6) rfl)
  | 32, _, _ => exact cwd_25 _ (List.mem_of_getElem? (i := 7) rfl)
  | 33, _, _ => exact cwd_25 _ (List.mem_of_getElem? (i := 8) rfl)
  | 34, _, _ => exact cwd_25 _ (List.mem_of_getElem? (i := 9) rfl)
  | 35, _, _ => exact cwd_25 _ (List.mem_of_getElem? (i := 10) rfl)
  | 36, _, _ => exact cwd_25 _ (List.mem_of_getElem? (i := 11) rfl)
  | 37, _, _ => exact cwd_37 _ (List.mem_of_getElem? (i := 0) rfl)
  | 38, _, _ => exact cwd_37 _ (List.mem_of_getElem? (i := 1) rfl)
  | 39, _, _ => exact cwd_37 _ (List.mem_of_getElem? (i := 2) rfl)
  | 40, _, _ => exact cwd_37 _ (List.mem_of_getElem? (i := 3) rfl)
  | 41, _, _ => exact cwd_37 _ (List.mem_of_getElem? (i := 4) rfl)
  | 42, _, _ => exact cwd_37 _ (List.mem_of_getElem? (i := 5) rfl)
  | 43, _, _ => exact cwd_37 _ (List.mem_of_getElem? (i := 6) rfl)
  | 44, _, _ => exact cwd_37 _ (List.mem_of_getElem? (i := 7) rfl)
  | 45, _, _ => exact cwd_37 _ (List.mem_of_getElem? (i := 8) rfl)
  | 46, _, _ => exact cwd_37 _ (List.mem_of_getElem? (i := 9) rfl)
  | 47, _, _ => exact cwd_37 _ (List.mem_of_getElem? (i := 10) rfl)
  | 48, _, _ => exact cwd_37 _ (List.mem_of_getElem? (i := 11) rfl)
  | 49, _, _ => exact cwd_49 _ (List.mem_of_getElem? (i := 0) rfl)
  | 50, _, _ => exact cwd_49 _ (List.mem_of_getElem? (i := 1) rfl)
  | 51, _, _ => exact cwd_49 _ (List.mem_of_getElem? (i := 2) rfl)
  | 52, _, _ => exact cwd_49 _ (List.mem_of_getElem? (i := 3) rfl)
  | 53, _, _ => exact cwd_49 _ (List.mem_of_getElem? (i := 4) rfl)
  | 54, _, _ => exact cwd_49 _ (List.mem_of_getElem? (i := 5) rfl)
  | 55, _, _ => exact cwd_49 _ (List.mem_of_getElem? (i := 6) rfl)
  | 56, _, _ => exact cwd_49 _ (List.mem_of_getElem? (i := 7) rfl)
  | 57, _, _ => exact cwd_49 _ (List.mem_of_getElem? (i := 8) rfl)
  | 58, _, _ => exact cwd_49 _ (List.mem_of_getElem? (i := 9) rfl)
  | 59, _, _ => exact cwd_49 _ (List.mem_of_getElem? (i := 10) rfl)
  | 60, _, _ => exact cwd_49 _ (List.mem_of_getElem? (i := 11) rfl)
  | 61, _, _ => exact cwd_61 _ (List.mem_of_getElem? (i := 0) rfl)
  | 62, _, _ => exact cwd_61 _ (List.mem_of_getElem? (i := 1) rfl)
  | 63, _, _ => exact cwd_61 _ (List.mem_of_getElem? (i := 2) rfl)
  | 64, _, _ => exact cwd_61 _ (List.mem_of_getElem? (i := 3) rfl)
  | 65, _, _ => exact cwd_61 _ (List.mem_of_getElem? (i := 4) rfl)
  | 66, _, _ => exact cwd_61 _ (List.mem_of_getElem? (i := 5) rfl)
  | 67, _, _ => exact cwd_61 _ (List.mem_of_getElem? (i := 6) rfl)
  | 68, _, _ => exact cwd_61 _ (List.mem_of_getElem? (i := 7) rfl)
  | 69, _, _ => exact cwd_61 _ (List.mem_of_getElem? (i := 8) rfl)
  | 70, _, _ => exact cwd_61 _ (List.mem_of_getElem? (i := 9) rfl)
  | 71, _, _ => exact cwd_61 _ (List.mem_of_getElem? (i := 10) rfl)
  | 72, _, _ => exact cwd_61 _ (List.mem_of_getElem? (i := 11) rfl)
  | 73, _, _ => exact cwd_73 _ (List.mem_of_getElem? (i := 0) rfl)
  | 74, _, _ => exact cwd_73 _ (List.mem_of_getElem? (i := 1) rfl)
  | 75, _, _ => exact cwd_73 _ (List.mem_of_getElem? (i := 2) rfl)
  | 76, _, _ => exact cwd_73 _ (List.mem_of_getElem? (i := 3) rfl)
  | 77, _, _ => exact cwd_73 _ (List.mem_of_getElem? (i := 4) rfl)
  | 78, _, _ => exact cwd_73 _ (List.mem_of_getElem? (i := 5) rfl)
  | 79, _, _ => exact cwd_73 _ (List.mem_of_getElem? (i := 6) rfl)
  | 80, _, _ => exact cwd_73 _ (List.mem_of_getElem? (i := 7) rfl)
  | 81, _, _ => exact cwd_73 _ (List.mem_of_getElem? (i := 8) rfl)
  | 82, _, _ => exact cwd_73 _ (List.mem_of_getElem? (i := 9) rfl)
  | 83, _, _ => exact cwd_73 _ (List.mem_of_getElem? (i := 10) rfl)
  | 84, _, _ => exact cwd_73 _ (List.mem_of_getElem? (i := 11) rfl)
  | 85, _, _ => exact cwd_85 _ (List.mem_of_getElem? (i := 0) rfl)
  | 86, _, _ => exact cwd_85 _ (List.mem_of_getElem? (i := 1) rfl)
  | 87, _, _ => exact cwd_85 _ (List.mem_of_getElem? (i := 2) rfl)
  | 88, _, _ => exact cwd_85 _ (List.mem_of_getElem? (i := 3) rfl)
  | 89, _, _ => exact cwd_85 _ (List.mem_of_getElem? (i := 4) rfl)
  | 90, _, _ => exact cwd_85 _ (List.mem_of_getElem? (i := 5) rfl)
  | 91, _, _ => exact cwd_85 _ (List.mem_of_getElem? (i := 6) rfl)
  | 92, _, _ => exact cwd_85 _ (List.mem_of_getElem? (i := 7) rfl)
  | 93, _, _ => exact cwd_85 _ (List.mem_of_getElem? (i := 8) rfl)
  | 94, _, _ => exact cwd_85 _ (List.mem_of_getElem? (i := 9) rfl)
  | 95, _, _ => exact cwd_85 _ (List.mem_of_getElem? (i := 10) rfl)
  | 96, _, _ => exact cwd_85 _ (List.mem_of_getElem? (i := 11) rfl)
  | 97, _, _ => exact cwd_97 _ (List.mem_of_getElem? (i := 0) rfl)
  | 98, _, _ => exact cwd_97 _ (List.mem_of_getElem? (i := 1) rfl)
  | 99, _, _ => exact cwd_97 _ (List.mem_of_getElem? (i := 2) rfl)
  | 100, _, _ => exact cwd_97 _ (List.mem_of_getElem? (i := 3) rfl)
  | 101, _, _ => exact cwd_97 _ (List.mem_of_getElem? (i := 4) rfl)
  | 102, _, _ => exact cwd_97 _ (List.mem_of_getElem? (i := 5) rfl)
  | 103, _, _ => exact cwd_97 _ (List.mem_of_getElem? (i := 6) rfl)
  | 104, _, _ => exact cwd_97 _ (List.mem_of_getElem? (i := 7) rfl)
  | 105, _, _ => exact cwd_97 _ (List.mem_of_getElem? (i := 8) rfl)
  | 106, _, _ => exact cwd_97 _ (List.mem_of_getElem? (i := 9) rfl)
  | 107, _, _ => exact cwd_97 _ (List.mem_of_getElem? (i := 10) rfl)
  | 108, _, _ => exact cwd_97 _ (List.mem_of_getElem? (i := 11) rfl)
  | 109, _, _ => exact cwd_109 _ (List.mem_of_getElem? (i := 0) rfl)
  | 110, _, _ => exact cwd_109 _ (List.mem_of_getElem? (i := 1) rfl)
  | 111, _, _ => exact cwd_109 _ (List.mem_of_getElem? (i := 2) rfl)
  | 112, _, _ => exact cwd_109 _ (List.mem_of_getElem? (i := 3) rfl)
  | 113, _, _ => exact cwd_109 _ (List.mem_of_getElem? (i := 4) rfl)
  | 114, _, _ => exact cwd_109 _ (List.mem_of_getElem? (i := 5) rfl)
  | 115, _, _ => exact cwd_109 _ (List.mem_of_getElem? (i := 6) rfl)
  | 116, _, _ => exact cwd_109 _ (List.mem_of_getElem? (i := 7) rfl)
  | 117, _, _ => exact cwd_109 _ (List.mem_of_getElem? (i := 8) rfl)
  | 118, _, _ => exact cwd_109 _ (List.mem_of_getElem? (i := 9) rfl)
  | 119, _, _ => exact cwd_109 _ (List.mem_of_getElem? (i := 10) rfl)
  | 120, _, _ => exact cwd_109 _ (List.mem_of_getElem? (i := 11) rfl)
  | 121, _, _ => exact cwd_121 _ (List.mem_of_getElem? (i := 0) rfl)
  | 122, _, _ => exact cwd_121 _ (List.mem_of_getElem? (i := 1) rfl)
  | 123, _, _ => exact cwd_121 _ (List.mem_of_getElem? (i := 2) rfl)
  | 124, _, _ => exact cwd_121 _ (List.mem_of_getElem? (i := 3) rfl)
  | 125, _, _ => exact cwd_121 _ (List.mem_of_getElem? (i := 4) rfl)
  | 126, _, _ => exact cwd_121 _ (List.mem_of_getElem? (i := 5) rfl)
  | 127, _, _ => exact cwd_121 _ (List.mem_of_getElem? (i := 6) rfl)
  | 128, _, _ => exact cwd_121 _ (List.mem_of_getElem? (i := 7) rfl)
  | 129, _, _ => exact cwd_121 _ (List.mem_of_getElem? (i := 8) rfl)
  | 130, _, _ => exact cwd_121 _ (List.mem_of_getElem? (i := 9) rfl)
  | 131, _, _ => exact cwd_121 _ (List.mem_of_getElem? (i := 10) rfl)
  | 132, _, _ => exact cwd_121 _ (List.mem_of_getElem? (i := 11) rfl)
  | 133, _, _ => exact cwd_133 _ (List.mem_of_getElem? (i := 0) rfl)
  | 134, _, _ => exact cwd_133 _ (List.mem_of_getElem? (i := 1) rfl)
  | 135, _, _ => exact cwd_133 _ (List.mem_of_getElem? (i := 2) rfl)
  | 136, _, _ => exact cwd_133 _ (List.mem_of_getElem? (i := 3) rfl)
  | 137, _, _ => exact cwd_133 _ (List.mem_of_getElem? (i := 4) rfl)
  | 138, _, _ => exact cwd_133 _ (List.mem_of_getElem? (i := 5) rfl)
  | 139, _, _ => exact cwd_133 _ (List.mem_of_getElem? (i := 6) rfl)
  | 140, _, _ => exact cwd_133 _ (List.mem_of_getElem? (i := 7) rfl)
  | 141, _, _ => exact cwd_133 _ (List.mem_of_getElem? (i := 8) rfl)
  | 142, _, _ => exact cwd_133 _ (List.mem_of_getElem? (i := 9) rfl)
  | 143, _, _ => exact cwd_133 _ (List.mem_of_getElem? (i := 10) rfl)
  | 144, _, _ => exact cwd_133 _ (List.mem_of_getElem? (i := 11) rfl)
  | 145, _, _ => exact cwd_145 _ (List.mem_of_getElem? (i := 0) rfl)
  | 146, _, _ => exact cwd_145 _ (List.mem_of_getElem? (i := 1) rfl)
  | 147, _, _ => exact cwd_145 _ (List.mem_of_getElem? (i := 2) rfl)
  | 148, _, _ => exact cwd_145 _ (List.mem_of_getElem? (i := 3) rfl)
  | 149, _, _ => exact cwd_145 _ (List.mem_of_getElem? (i := 4) rfl)
  | 150, _, _ => exact cwd_145 _ (List.mem_of_getElem? (i := 5) rfl)
  | 151, _, _ => exact cwd_145 _ (List.mem_of_getElem? (i := 6) rfl)
  | 152, _, _ => exact cwd_145 _ (List.mem_of_getElem? (i := 7) rfl)
  | 153, _, _ => exact cwd_145 _ (List.mem_of_getElem? (i := 8) rfl)
  | 154, _, _ => exact cwd_145 _ (List.mem_of_getElem? (i := 9) rfl)
  | 155, _, _ => exact cwd_145 _ (List.mem_of_getElem? (i := 10) rfl)
  | 156, _, _ => exact cwd_145 _ (List.mem_of_getElem? (i := 11) rfl)
  | 157, _, _ => exact cwd_157 _ (List.mem_of_getElem? (i := 0) rfl)
  | 158, _, _ => exact cwd_157 _ (List.mem_of_getElem? (i := 1) rfl)
  | 159, _, _ => exact cwd_157 _ (List.mem_of_getElem? (i := 2) rfl)
  | 160, _, _ => exact cwd_157 _ (List.mem_of_getElem? (i := 3) rfl)
  | 161, _, _ => exact cwd_157 _ (List.mem_of_getElem? (i := 4) rfl)
  | 162, _, _ => exact cwd_157 _ (List.mem_of_getElem? (i := 5) rfl)
  | 163, _, _ => exact cwd_157 _ (List.mem_of_getElem? (i := 6) rfl)
  | 164, _, _ => exact cwd_157 _ (List.mem_of_getElem? (i := 7) rfl)
  | 165, _, _ => exact cwd_157 _ (List.mem_of_getElem? (i := 8) rfl)
  | 166, _, _ => exact cwd_157 _ (List.mem_of_getElem? (i := 9) rfl)
  | 167, _, _ => exact cwd_157 _ (List.mem_of_getElem? (i := 10) rfl)
  | 168, _, _ => exact cwd_157 _ (List.mem_of_getElem? (i := 11) rfl)
  | 169, _, _ => exact cwd_169 _ (List.mem_of_getElem? (i := 0) rfl)
  | 170, _, _ => exact cwd_169 _ (List.mem_of_getElem? (i := 1) rfl)
  | 171, _, _ => exact cwd_169 _ (List.mem_of_getElem? (i := 2) rfl)
  | 172, _, _ => exact cwd_169 _ (List.mem_of_getElem? (i := 3) rfl)
  | 173, _, _ => exact cwd_169 _ (List.mem_of_getElem? (i := 4) rfl)
  | 174, _, _ => exact cwd_169 _ (List.mem_of_getElem? (i := 5) rfl)
  | 175, _, _ => exact cwd_169 _ (List.mem_of_getElem? (i := 6) rfl)
  | 176, _, _ => exact cwd_169 _ (List.mem_of_getElem? (i := 7) rfl)
  | 177, _, _ => exact cwd_169 _ (List.mem_of_getElem? (i := 8) rfl)
  | 178, _, _ => exact cwd_169 _ (List.mem_of_getElem? (i := 9) rfl)
  | 179, _, _ => exact cwd_169 _ (List.mem_of_getElem? (i := 10) rfl)
  | 180, _, _ => exact cwd_169 _ (List.mem_of_getElem? (i := 11) rfl)
  | 181, _, _ => exact cwd_181 _ (List.mem_of_getElem? (i := 0) rfl)
  | 182, _, _ => exact cwd_181 _ (List.mem_of_getElem? (i := 1) rfl)
  | 183, _, _ => exact cwd_181 _ (List.mem_of_getElem? (i := 2) rfl)
  | 184, _, _ => exact cwd_181 _ (List.mem_of_getElem? (i := 3) rfl)
  | 185, _, _ => exact cwd_181 _ (List.mem_of_getElem? (i := 4) rfl)
  | 186, _, _ => exact cwd_181 _ (List.mem_of_getElem? (i := 5) rfl)
  | 187, _, _ => exact cwd_181 _ (List.mem_of_getElem? (i := 6) rfl)
  | 188, _, _ => exact cwd_181 _ (List.mem_of_getElem? (i := 7) rfl)
  | 189, _, _ => exact cwd_181 _ (List.mem_of_getElem? (i := 8) rfl)
  | 190, _, _ => exact cwd_181 _ (List.mem_of_getElem? (i := 9) rfl)
  | 191, _, _ => exact cwd_181 _ (List.mem_of_getElem? (i := 10) rfl)
  | 192, _, _ => exact cwd_181 _ (List.mem_of_getElem? (i := 11) rfl)
  | 193, _, _ => exact cwd_193 _ (List.mem_of_getElem? (i := 0) rfl)
  | 194, _, _ => exact cwd_193 _ (List.mem_of_getElem? (i := 1) rfl)
  | 195, _, _ => exact cwd_193 _ (List.mem_of_getElem? (i := 2) rfl)
  | 196, _, _ => exact cwd_193 _ (List.mem_of_getElem? (i := 3) rfl)
  | 197, _, _ => exact cwd_193 _ (List.mem_of_getElem? (i := 4) rfl)
  | 198, _, _ => exact cwd_193 _ (List.mem_of_getElem? (i := 5) rfl)
  | 199, _, _ => exact cwd_193 _ (List.mem_of_getElem? (i := 6) rfl)
  | 200, _, _ => exact cwd_193 _ (List.mem_of_getElem? (i := 7) rfl)
  | 201, _, _ => exact cwd_193 _ (List.mem_of_getElem? (i := 8) rfl)
  | 202, _, _ => exact cwd_193 _ (List.mem_of_getElem? (i := 9) rfl)
  | 203, _, _ => exact cwd_193 _ (List.mem_of_getElem? (i := 10) rfl)
  | 204, _, _ => exact cwd_193 _ (List.mem_of_getElem? (i := 11) rfl)
  | 205, _, _ => exact cwd_205 _ (List.mem_of_getElem? (i := 0) rfl)
  | 206, _, _ => exact cwd_205 _ (List.mem_of_getElem? (i := 1) rfl)
  | 207, _, _ => exact cwd_205 _ (List.mem_of_getElem? (i := 2) rfl)
  | 208, _, _ => exact cwd_205 _ (List.mem_of_getElem? (i := 3) rfl)
  | 209, _, _ => exact cwd_205 _ (List.mem_of_getElem? (i := 4) rfl)
  | 210, _, _ => exact cwd_205 _ (List.mem_of_getElem? (i := 5) rfl)
  | 211, _, _ => exact cwd_205 _ (List.mem_of_getElem? (i := 6) rfl)
  | z + 212, _, h => exact absurd h (by omega)
section SNR
variable {g : mG} {p : Program} {l : Launch} {e : Env} {R : Room} {s : State} {m : MethodId} {args : Array Value} {below : List Frame} {meth : Method} {c : Code} {y d M0 len pc : Nat} {L st : List Value} {M : mM} {Q : State → Prop} {r : mR}
theorem iv_inv {i sp : Nat} (h : minv y i st sp M = some (.inl r)) : False := by
  unfold minv mcall at h
  split at h
  split at h
  · split at h
    · split at h
      · split at h
        · obtain ⟨-, h⟩ := gt_some h
          cases h
        · cases h
      · cases h
    · cases h
  · split at h
    · split at h
      · obtain ⟨-, h⟩ := gt_some h
        cases h
      · cases h
    · split at h
      · split at h
        · split at h
          · obtain ⟨-, h⟩ := gt_some h
            cases h
          · cases h
        · cases h
      · cases h
theorem sn_invokestatic {i : Nat} (C : cx g p R s m meth c y d args) (hd : decode (bt y) pc = .ok (.invokestatic i, len)) (hs : stp y (.invokestatic i) len pc L st M = some (.inl r)) (k : Kn g p l e R s m args below meth c y M0 Q r) : Kn g p l e R s m args below meth c y M0 Q (pc, L, st, M) := by
  obtain ⟨hx, hb, -, hml, hown, hts, -, hini, hK, hF, hfr, hlo, hbs, h9⟩ := C
  simp only [stp] at hs
  obtain ⟨rfl, hs2⟩ := gt_some hs
  split at hs2
  · rename_i hk9
    have hws := lk_w (c := mow y) (i := i) rfl (by rw [hk9]; simp)
    have hlk : lk (mow y) i = (9, (lk (mow y) i).2.1, (lk (mow y) i).2.2) := by rw [← hk9]
    rw [hlk] at hws
    unfold mcopy at hs2
    split at hs2
    · rename_i n dp a sp a0
      split at hs2
      · rename_i n0 f n1 q h1 h2
        obtain ⟨⟨g1, g2, g3, g4, g5⟩, hs3⟩ := gt_some hs2
        obtain rfl := iv_nx hs3
        intro H locs ls a1 a2 a3 a4
        have hq0 : a0 < M.1 := rp_ar a1 h1
        have hq : a < M.1 := rp_ar a1 h2
        have he0 := wo_get (g := g) hq0
        have he := wo_get (g := g) hq
        rw [h1] at he0
        rw [h2] at he
        show W _ _ _ _ _ _ _ _ _ _ _ _ _ _ _ (F0 m pc ls [.int n, .int dp, rv g (.ref a), .int sp, rv g (.ref a0)])
        rw [rv_ref (Nat.lt_of_lt_of_le hq a1.2.2.1), rv_ref (Nat.lt_of_lt_of_le hq0 a1.2.2.1)]
        have hsz : c.maxLocals = ls.size := by rw [hml, a3.1]; exact a4.symm
        have hnf : nativeFrameWords "java/lang/System" "arraycopy" 5 + 11 ≤ 64 := by decide
        exact va_copyi hx hb hsz hown (hts _ (hws _ (by simp [lw]))) (hts _ (hws _ (by simp [lw]))) (hts _ (hws _ (by simp [lw]))) (hts _ (hws _ (by simp [lw]))) hK a1.2.2.2 wo_D a2 a0 a 0 0 he0 he rfl rfl rfl g1 g2 g3 g4 g5 (fun _ _ => rfl) (by omega) (by simp; omega) hd
          (fun H1 locs1 hP1 hD1 hS1 => k H1 locs1 ls (rp_set (x := .inl (0, n1, va_cpy f q sp.toNatClampNeg dp.toNatClampNeg n.toNatClampNeg)) a1 hq rfl hP1) hS1 a3 a4)
      · cases hs2
    · cases hs2
  · exact absurd (iv_inv hs2) id
theorem sn_invokespecial {i : Nat} (C : cx g p R s m meth c y d args) (hd : decode (bt y) pc = .ok (.invokespecial i, len)) (hs : stp y (.invokespecial i) len pc L st M = some (.inl r)) (k : Kn g p l e R s m args below meth c y M0 Q r) : Kn g p l e R s m args below meth c y M0 Q (pc, L, st, M) := by
  obtain ⟨hx, hb, -, hml, hown, hts, -, hini, hK, hF, hfr, hlo, hbs, h9⟩ := C
  simp only [stp] at hs
  obtain ⟨rfl, hs2⟩ := gt_some hs
  split at hs2
  · rename_i hk9
    have hws := lk_w (c := mow y) (i := i) rfl (by rw [hk9]; simp)
    have hlk : lk (mow y) i = (8, (lk (mow y) i).2.1, (lk (mow y) i).2.2) := by rw [← hk9]
    rw [hlk] at hws
    split at hs2
    · rename_i b st2
      obtain ⟨⟨g1, g2⟩, hs3⟩ := gt_some hs2
      obtain rfl := iv_nx hs3
      intro H locs ls a1 a2 a3 a4
      have hsum : ((st2.map (rv g)).map fun v => v.category).sum ≤ 8 := by
        have key : ∀ (l : List Value), ((l.map (rv g)).map fun v => v.category).sum ≤ 2 * l.length := by
          intro l
          induction l with
          | nil => exact Nat.le_refl _
          | cons v l ih =>
            have : (rv g v).category ≤ 2 := by rcases lv_cat (rv g v) with h | h <;> omega
            simp only [List.map_cons, List.sum_cons, List.length_cons]
            omega
        have := key st2
        omega
      show W _ _ _ _ _ _ _ _ _ _ _ _ _ _ _ (F0 m pc ls (rv g (.ref b) :: st2.map (rv g)))
      rw [rv_ref g1]
      have hsz : ls.size = c.maxLocals := by rw [hml, a3.1]; exact a4
      exact W.objInit hx hb hown (hts _ (hws _ (by simp [lw]))) (hts _ (hws _ (by simp [lw]))) (hts _ ws_obj) rfl hsz rfl hd (by omega) (by show 2 * 0 + _ + 12 ≤ _; omega) (k H locs ls a1 a2 a3 a4)
    · cases hs2
  · exact absurd (iv_inv hs2) id
theorem sn_invokevirtual {i : Nat} (hs : stp y (.invokevirtual i) len pc L st M = some (.inl r)) : False := by
  simp only [stp] at hs
  obtain ⟨rfl, hs2⟩ := gt_some hs
  exact iv_inv hs2
/-- a call's room on the stack -/
theorem sum8 {l : List Value} (h : l.length ≤ 4) : ((l.map (rv g)).map fun v => v.category).sum ≤ 8 := by
  have key : ∀ (l : List Value), ((l.map (rv g)).map fun v => v.category).sum ≤ 2 * l.length := by
    intro l
    induction l with
    | nil => exact Nat.le_refl _
    | cons v l ih =>
      have : (rv g v).category ≤ 2 := by rcases lv_cat (rv g v) with h | h <;> omega
      simp only [List.map_cons, List.sum_cons, List.length_cons]
      omega
  have := key l
  omega
-- contracts
def Pq (g : mG) (vs : List Value) (M : mM) : Array Value → State → Prop := fun a U => a = (vs.map (rv g)).toArray ∧ U.heap.size = gB g + M.1 ∧ rp g M U.heap ∧ va_K (gD g) mcl (tysm g) U ∧ rof g U U.heap
def Qq (g : mG) (v : Option Value) (M : mM) : Array Value → State → Outcome → State → Prop := fun _ st oc t => oc = .returned (v.map (rv g)) ∧ rp g M t.heap ∧ va_F (Ab g) st t
def rmm (d k : Nat) : Room := { frames := d + 1, cells := k, slots := 1200 * k, locals := 64 * (d + 1) }
def wsm (z : Nat) : List Cond := cwd z :: WS
theorem pq_blind {vs : List Value} : FrameBlind (Pq g vs M) := fun a U gg mk h => ⟨h.1, h.2.1, h.2.2.1, va_K.moved (u := U) (U := U.calling gg mk a) (Vm.Alike.refl U.vm) h.2.2.2.1, rof_same (s := U) (U := U.calling gg mk a) rfl h.2.2.2.2⟩
theorem pq_at {vs : List Value} {H : Heap} {locs : List Loc} (hK : va_K (gD g) mcl (tysm g) s) (hF : rof g s s.heap) (a1 : rp g M H) (a2 : va_S (Ab g) s.heap H locs) (hsz : H.size = gB g + M.1) {U : State} (hU : U.heap = H) (hW : s.WarmedH U.vm) : Pq g vs M ((vs.map (rv g)).toArray) U :=
  ⟨rfl, by rw [hU]; exact hsz, by rw [hU]; exact a1, va_K.moved hW.alike hK, by rw [hU]; exact rof_kept (rof_warm hW hF) a2.2.1⟩
/-- what the machine's run of a method gives the caller -/
theorem sn_ran {v2 : Option Value} {M2 : mM} {rest : List Value} {a : Array Value} (h0 : M0 ≤ M.1) (h1 : M.1 ≤ M2.1)
    (hr : ∀ (H : Heap) (locs : List Loc) (ls : Array Slot), rp g M H → va_S (Ab g) s.heap H locs → lr g ls L → L.length = mml y → H.size = gB g + M.1 →
      va_Run p l e R s m args below meth c H locs (M.1 - M0) (1200 * (M.1 - M0)) (M2.1 - M.1) (1200 * (M2.1 - M.1)) (F0 m pc ls (st.map (rv g))) (rest.map (rv g)) (Qq g v2 M2 a) (Ab g))
    (hz : s.heap.size = gB g + M0) (k : Kn g p l e R s m args below meth c y M0 Q (pc + 3, L, v2.toList ++ rest, M2)) : Kn g p l e R s m args below meth c y M0 Q (pc, L, st, M) := by
  intro H locs ls a1 a2 a3 a4
  refine w_sz hz h0 a1 a2 fun hsz => ?_
  intro T hT X
  obtain ⟨v, st₀, t, T', Lc, b0, X', hL, e1, e2, ⟨hv, hrp, hz', hk⟩, stp'⟩ := hr H locs ls a1 a2 a3 a4 hsz T hT X
  rw [b0] at hz' hk
  cases hv
  have e3 : M.1 - M0 + (M2.1 - M.1) = M2.1 - M0 := by omega
  have e4 : 1200 * (M.1 - M0) + 1200 * (M2.1 - M.1) = 1200 * (M2.1 - M0) := by omega
  rw [e3, e4] at X'
  have h4 := k T'.heap (locs ++ Lc) ls (by rw [e1]; exact hrp)
    ⟨Nat.le_trans a2.1 (by rw [e1]; exact hz'), fun q g1 g2 => by rw [e1, hk q (Nat.lt_of_lt_of_le g1 a2.1) g2]; exact a2.2.1 q g1 g2, fun q hq => by
      rcases List.mem_append.mp hq with h | h
      · exact a2.2.2 q h
      · exact hL q h⟩ a3 a4
  have e5 : (v2.toList ++ rest).map (rv g) = (v2.map (rv g)).toList ++ rest.map (rv g) := by cases v2 <;> simp
  dsimp only at h4
  rw [e5] at h4
  obtain ⟨t2, c1, c2⟩ := h4 T' rfl X'
  exact ⟨t2, stp' t2 c1, c2⟩
/-- a method's contract out of its run -/
theorem met_of {z d' : Nat} {vs : List Value} {v2 : Option Value} {M2 : mM} (l : Launch) (h0 : 0 < z) (hz : z < 212) (h9 : g9 g = .null ∨ ∃ a, g9 g = .ref a) (hvs : (mexp vs).length ≤ mml z)
    (hrun : ∀ {p : Program} {e : Env} {R : Room} {s : State} {m : MethodId} {args : Array Value} {below : List Frame} {meth : Method} {c : Code}, cx g p R s m meth c z d' args → s.heap.size = gB g + M.1 → M2.1 - M.1 ≤ R.cells → 1200 * (M2.1 - M.1) ≤ R.slots →
      Kn g p l e R s m args below meth c z M.1 (MQ below (Qq g v2 M2) args s (M2.1 - M.1) (1200 * (M2.1 - M.1)) (Ab g)) (0, ment z vs, [], M)) :
    Met l (myn z) (wsm z) (rmm d' (M2.1 - M.1)) (Pq g vs M) (Qq g v2 M2) (M2.1 - M.1) (1200 * (M2.1 - M.1)) (Ab g) := by
  obtain ⟨z1, z2, z3, z4⟩ := z_ok z hz h0
  refine va_MetF (cc := bt z) (maxL := mml z) (ret := mrt z) z1 (ws' := WS) rfl ?_
  intro p e s m args below meth c s₁ B hml hP
  obtain ⟨rfl, hsz, hrp, hK, hF⟩ := hP
  have hts := atoms_spec (ws := wsm z) B.pre
  have hown : s.vm.findClass (cn (mow z)) = some m.cls := by rw [z3]; exact findClass_of_methodNamed B.named
  have hC : cx g p (rmm d' (M2.1 - M.1)) s m meth c z d' (vs.map (rv g)).toArray :=
    ⟨B.exec, B.bytes, B.returns, hml, hown, fun w hw => hts w (List.mem_cons_of_mem _ hw), B.notSynchronized, fun h => ((name_of_methodNamed B.named B.method).1).trans h, hK, hF, Nat.le_refl _, Nat.le_refl _, by omega, h9⟩
  have h4 := hrun (e := e) (below := below) hC hsz (Nat.le_refl _) (Nat.le_refl _)
  rw [lg_entry_eq]
  have hcat : ∀ v, (rv g v).category = v.category := rv_cat h9
  have hln : ∀ vs : List Value, (lg_sl (vs.map (rv g))).length = (mexp vs).length := by
    intro vs
    induction vs with
    | nil => rfl
    | cons v vs ih =>
      simp only [lg_sl, mexp, List.map_cons, List.flatMap_cons, List.length_append, hcat] at ih ⊢
      rw [ih]
      by_cases h : v.category = 2 <;> simp [h]
  have hent := lv_entry (vs.map (rv g)) (n := mml z) (by rw [hln]; exact hvs)
  have hlen : (ment z vs).length = mml z := by simp [ment]; omega
  have hargs : ∀ (vs : List Value) (i j : Nat) (v : Value), (mexp vs)[j]? = some v → v ≠ .null → (i + j, rv g v) ∈ lv_args i (vs.map (rv g)) := by
    intro vs
    induction vs with
    | nil => intro i j v h; simp [mexp] at h
    | cons w vs ih =>
      intro i j v h hn
      simp only [mexp, List.flatMap_cons] at h ih
      simp only [List.map_cons, lv_args, hcat]
      by_cases hc : w.category = 2
      · rw [if_pos hc] at h ⊢
        match j, h with
        | 0, h =>
          simp at h
          subst h
          exact List.mem_cons_self
        | 1, h =>
          simp at h
          exact absurd h.symm hn
        | j + 2, h =>
          simp at h
          have := ih (i + 2) j v (by simpa using h) hn
          rw [show i + 2 + j = i + (j + 2) by omega] at this
          exact List.mem_cons_of_mem _ this
      · rw [if_neg hc] at h ⊢
        match j, h with
        | 0, h =>
          simp at h
          subst h
          exact List.mem_cons_self
        | j + 1, h =>
          simp at h
          have := ih (i + 1) j v (by simpa using h) hn
          rw [show i + 1 + j = i + (j + 1) by omega] at this
          exact List.mem_cons_of_mem _ this
  have hlr : lr g ((lg_sl (vs.map (rv g)) ++ List.replicate (mml z - (lg_sl (vs.map (rv g))).length) Slot.unset).toArray) (ment z vs) := by
    refine ⟨by rw [hlen]; exact hent.1, hent.2.1, fun q hq => hent.2.2 q ?_⟩
    obtain ⟨v, g1, g2, g3⟩ := asc_mem.mp hq
    have hj : q.1 < (mexp vs).length := by
      by_cases hj : q.1 < (mexp vs).length
      · exact hj
      · rw [ment, List.getElem?_append_right (Nat.le_of_not_lt hj)] at g1
        have := List.mem_of_getElem? g1
        exact absurd (List.eq_of_mem_replicate this) g2
    rw [ment, List.getElem?_append_left hj] at g1
    have := hargs vs 0 q.1 v g1 g2
    rw [Nat.zero_add, ← g3] at this
    exact this
  have h5 := h4 s.heap [] _ hrp va_S.rf hlr hlen
  dsimp only at h5
  rw [Nat.sub_self, Nat.mul_zero] at h5
  exact h5
end SNR
