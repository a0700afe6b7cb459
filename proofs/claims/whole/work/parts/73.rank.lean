/-! TEXTS: the model's ranks (wip/whole/gen73.py) -/
def rnk (v : Int32) : Int32 := if v = 0 then 0 else if v = 11 then 1 else if v = 12 then 2 else if v = 13 then 3 else if v ≤ 15 then 4 else if v ≤ 17 then 5 else if v = 18 then 6 else 7
theorem x_146 {d : Nat} {M : mM} {v : Int32} : Ex d 146 [.int v] M (some (.int (rnk v))) M := by
  refine Ex.of ?_
  show Wp _ 146 0 [.int v] [] _ _
  refine W_iload_n d_146_0 rfl ?_
  refine W_if_ne (tgt := 8) d_146_1 (by decide) (fun h1 => ?_) (fun h1 => ?_)
  · refine W_iload_n d_146_8 rfl ?_
    refine W_bipush d_146_9 (v := 11) (by decide) ?_
    refine W_icmp_ne (tgt := 18) d_146_11 (by decide) (fun h11 => ?_) (fun h11 => ?_)
    · refine W_iload_n d_146_18 rfl ?_
      refine W_bipush d_146_19 (v := 12) (by decide) ?_
      refine W_icmp_ne (tgt := 28) d_146_21 (by decide) (fun h21 => ?_) (fun h21 => ?_)
      · refine W_iload_n d_146_28 rfl ?_
        refine W_bipush d_146_29 (v := 13) (by decide) ?_
        refine W_icmp_ne (tgt := 38) d_146_31 (by decide) (fun h31 => ?_) (fun h31 => ?_)
        · refine W_iload_n d_146_38 rfl ?_
          refine W_bipush d_146_39 (v := 15) (by decide) ?_
          refine W_icmp_gt (tgt := 48) d_146_41 (by decide) (fun h41 => ?_) (fun h41 => ?_)
          · refine W_iload_n d_146_48 rfl ?_
            refine W_bipush d_146_49 (v := 17) (by decide) ?_
            refine W_icmp_gt (tgt := 58) d_146_51 (by decide) (fun h51 => ?_) (fun h51 => ?_)
            · refine W_iload_n d_146_58 rfl ?_
              refine W_bipush d_146_59 (v := 18) (by decide) ?_
              refine W_icmp_ne (tgt := 69) d_146_61 (by decide) (fun h61 => ?_) (fun h61 => ?_)
              · refine W_bipush d_146_69 (v := 7) (by decide) ?_
                refine W_iret d_146_71 rt_146 rfl ?_
                exact ⟨congrArg (fun z => some (Value.int z)) (by unfold rnk; simp [*, ← Int32.not_lt]), rfl⟩
              · refine W_bipush d_146_64 (v := 6) (by decide) ?_
                refine W_goto (tgt := 71) d_146_66 (by decide) ?_
                refine W_iret d_146_71 rt_146 rfl ?_
                exact ⟨congrArg (fun z => some (Value.int z)) (by unfold rnk; simp [*, ← Int32.not_lt]), rfl⟩
            · refine W_iconst d_146_54 (v := 5) (by decide) ?_
              refine W_goto (tgt := 71) d_146_55 (by decide) ?_
              refine W_iret d_146_71 rt_146 rfl ?_
              exact ⟨congrArg (fun z => some (Value.int z)) (by unfold rnk; simp [*, ← Int32.not_lt]), rfl⟩
          · refine W_iconst d_146_44 (v := 4) (by decide) ?_
            refine W_goto (tgt := 71) d_146_45 (by decide) ?_
            refine W_iret d_146_71 rt_146 rfl ?_
            exact ⟨congrArg (fun z => some (Value.int z)) (by unfold rnk; simp [*, ← Int32.not_lt]), rfl⟩
        · refine W_iconst d_146_34 (v := 3) (by decide) ?_
          refine W_goto (tgt := 71) d_146_35 (by decide) ?_
          refine W_iret d_146_71 rt_146 rfl ?_
          exact ⟨congrArg (fun z => some (Value.int z)) (by unfold rnk; simp [*, ← Int32.not_lt]), rfl⟩
      · refine W_iconst d_146_24 (v := 2) (by decide) ?_
        refine W_goto (tgt := 71) d_146_25 (by decide) ?_
        refine W_iret d_146_71 rt_146 rfl ?_
        exact ⟨congrArg (fun z => some (Value.int z)) (by unfold rnk; simp [*, ← Int32.not_lt]), rfl⟩
    · refine W_iconst d_146_14 (v := 1) (by decide) ?_
      refine W_goto (tgt := 71) d_146_15 (by decide) ?_
      refine W_iret d_146_71 rt_146 rfl ?_
      exact ⟨congrArg (fun z => some (Value.int z)) (by unfold rnk; simp [*, ← Int32.not_lt]), rfl⟩
  · refine W_iconst d_146_4 (v := 0) (by decide) ?_
    refine W_goto (tgt := 71) d_146_5 (by decide) ?_
    refine W_iret d_146_71 rt_146 rfl ?_
    exact ⟨congrArg (fun z => some (Value.int z)) (by unfold rnk; simp [*, ← Int32.not_lt]), rfl⟩
