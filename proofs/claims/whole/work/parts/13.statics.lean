/-! STATIC METHODS (wip/whole/gen13.py) -/
theorem x_126 {d : Nat} {M : mM} {v m : Int32} : Ex d 126 [.int v, .int m] M (some (.int (bI (decide (0 ≤ v ∧ v ≤ m))))) M := by
  refine Ex.of ?_
  show Wp _ 126 0 [.int v, .int m] [] _ _
  refine W_iload_n d_126_0 rfl ?_
  refine W_if_lt (tgt := 13) d_126_1 (by decide) (fun h1 => ?_) (fun h1 => ?_)
  · refine W_iconst d_126_13 (v := 0) (by decide) ?_
    refine W_iret d_126_14 rt_126 rfl ?_
    first | exact ⟨congrArg (fun z => some (Value.int z)) (bI_1 (by simp only [Int32.lt_iff_toInt_lt, Int32.le_iff_toInt_le] at *; simp at *; omega)), rfl⟩ | exact ⟨congrArg (fun z => some (Value.int z)) (bI_0 (by simp only [Int32.lt_iff_toInt_lt, Int32.le_iff_toInt_le] at *; simp at *; omega)), rfl⟩
  · refine W_iload_n d_126_4 rfl ?_
    refine W_iload_n d_126_5 rfl ?_
    refine W_icmp_gt (tgt := 13) d_126_6 (by decide) (fun h6 => ?_) (fun h6 => ?_)
    · refine W_iconst d_126_13 (v := 0) (by decide) ?_
      refine W_iret d_126_14 rt_126 rfl ?_
      first | exact ⟨congrArg (fun z => some (Value.int z)) (bI_1 (by simp only [Int32.lt_iff_toInt_lt, Int32.le_iff_toInt_le] at *; simp at *; omega)), rfl⟩ | exact ⟨congrArg (fun z => some (Value.int z)) (bI_0 (by simp only [Int32.lt_iff_toInt_lt, Int32.le_iff_toInt_le] at *; simp at *; omega)), rfl⟩
    · refine W_iconst d_126_9 (v := 1) (by decide) ?_
      refine W_goto (tgt := 14) d_126_10 (by decide) ?_
      refine W_iret d_126_14 rt_126 rfl ?_
      first | exact ⟨congrArg (fun z => some (Value.int z)) (bI_1 (by simp only [Int32.lt_iff_toInt_lt, Int32.le_iff_toInt_le] at *; simp at *; omega)), rfl⟩ | exact ⟨congrArg (fun z => some (Value.int z)) (bI_0 (by simp only [Int32.lt_iff_toInt_lt, Int32.le_iff_toInt_le] at *; simp at *; omega)), rfl⟩
theorem x_127 {d : Nat} (hd : 1 ≤ d) {M : mM} {v : Int32} : Ex d 127 [.int v] M (some (.int (bI (decide (0 ≤ v ∧ v ≤ 255))))) M := by
  refine Ex.of ?_
  show Wp _ 127 0 [.int v] [] _ _
  refine W_iload_n d_127_0 rfl ?_
  refine W_sipush d_127_1 (v := 255) (by decide) ?_
  refine W_callS d_127_4 o_127 k_6_95 (by omega) x_126 rfl (Nat.le_of_ble_eq_true rfl) ?_
  refine W_iret d_127_7 rt_127 bI_nz ?_
  exact ⟨rfl, rfl⟩
theorem x_128 {d : Nat} (hd : 1 ≤ d) {M : mM} {v : Int32} : Ex d 128 [.int v] M (some (.int (bI (decide (0 ≤ v ∧ v ≤ 23))))) M := by
  refine Ex.of ?_
  show Wp _ 128 0 [.int v] [] _ _
  refine W_iload_n d_128_0 rfl ?_
  refine W_bipush d_128_1 (v := 23) (by decide) ?_
  refine W_callS d_128_3 o_128 k_6_95 (by omega) x_126 rfl (Nat.le_of_ble_eq_true rfl) ?_
  refine W_iret d_128_6 rt_128 bI_nz ?_
  exact ⟨rfl, rfl⟩
theorem x_129 {d : Nat} (hd : 1 ≤ d) {M : mM} {v : Int32} : Ex d 129 [.int v] M (some (.int (bI (decide (0 ≤ v ∧ v ≤ 1))))) M := by
  refine Ex.of ?_
  show Wp _ 129 0 [.int v] [] _ _
  refine W_iload_n d_129_0 rfl ?_
  refine W_iconst d_129_1 (v := 1) (by decide) ?_
  refine W_callS d_129_2 o_129 k_6_95 (by omega) x_126 rfl (Nat.le_of_ble_eq_true rfl) ?_
  refine W_iret d_129_5 rt_129 bI_nz ?_
  exact ⟨rfl, rfl⟩
theorem x_130 {d : Nat} (hd : 1 ≤ d) {M : mM} {v : Int32} : Ex d 130 [.int v] M (some (.int (bI (decide (0 ≤ v ∧ v ≤ 48))))) M := by
  refine Ex.of ?_
  show Wp _ 130 0 [.int v] [] _ _
  refine W_iload_n d_130_0 rfl ?_
  refine W_bipush d_130_1 (v := 48) (by decide) ?_
  refine W_callS d_130_3 o_130 k_6_95 (by omega) x_126 rfl (Nat.le_of_ble_eq_true rfl) ?_
  refine W_iret d_130_6 rt_130 bI_nz ?_
  exact ⟨rfl, rfl⟩
theorem x_131 {d : Nat} (hd : 1 ≤ d) {M : mM} {v : Int32} : Ex d 131 [.int v] M (some (.int (bI (decide (0 ≤ v ∧ v ≤ 4))))) M := by
  refine Ex.of ?_
  show Wp _ 131 0 [.int v] [] _ _
  refine W_iload_n d_131_0 rfl ?_
  refine W_iconst d_131_1 (v := 4) (by decide) ?_
  refine W_callS d_131_2 o_131 k_6_95 (by omega) x_126 rfl (Nat.le_of_ble_eq_true rfl) ?_
  refine W_iret d_131_5 rt_131 bI_nz ?_
  exact ⟨rfl, rfl⟩
theorem x_133 {d : Nat} (hd : 1 ≤ d) {M : mM} {v : Int32} : Ex d 133 [.int v] M (some (.int (bI (decide (0 ≤ v ∧ v ≤ 3))))) M := by
  refine Ex.of ?_
  show Wp _ 133 0 [.int v] [] _ _
  refine W_iload_n d_133_0 rfl ?_
  refine W_iconst d_133_1 (v := 3) (by decide) ?_
  refine W_callS d_133_2 o_133 k_6_95 (by omega) x_126 rfl (Nat.le_of_ble_eq_true rfl) ?_
  refine W_iret d_133_5 rt_133 bI_nz ?_
  exact ⟨rfl, rfl⟩
