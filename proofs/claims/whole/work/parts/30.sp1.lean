/-! ScopeTree: the small helpers -/
section SP1
variable {G : aw_G} {d : Nat} {Q : aw_O → aw_J → Prop} {J : aw_J} {kc ks : Nat}
def sp_b (c : Prop) (h : Decidable c) : Int32 := if c then 1 else 0
theorem sp_isBelow {x y : Int32} (h1 : (0 ≤ x ∧ x < y) → Q (.inl (some (.int 1))) J) (h0 : ¬ (0 ≤ x ∧ x < y) → Q (.inl (some (.int 0))) J) : aw_W G mT_isBelow d Q 0 [some (.int x), some (.int y)] [] J kc ks := by
  refine aw_iload_n dT_isBelow_0 rfl ?_
  refine aw_if_lt (tgt := 13) dT_isBelow_1 (by decide) (fun h1_ => ?_) (fun h1_ => ?_)
  · refine aw_iconst (v := 0) dT_isBelow_13 (by decide) ?_
    refine aw_zret dT_isBelow_14 rfl rfl ?_
    first | exact h1 ⟨Int32.not_lt.mp h1_, Int32.not_le.mp h6⟩ | exact h0 (fun z => absurd z.2 (Int32.not_lt.mpr h6)) | exact h0 (fun z => absurd z.1 (Int32.not_le.mpr h1_))
  · refine aw_iload_n dT_isBelow_4 rfl ?_
    refine aw_iload_n dT_isBelow_5 rfl ?_
    refine aw_icmp_ge (tgt := 13) dT_isBelow_6 (by decide) (fun h6 => ?_) (fun h6 => ?_)
    · refine aw_iconst (v := 0) dT_isBelow_13 (by decide) ?_
      refine aw_zret dT_isBelow_14 rfl rfl ?_
      first | exact h1 ⟨Int32.not_lt.mp h1_, Int32.not_le.mp h6⟩ | exact h0 (fun z => absurd z.2 (Int32.not_lt.mpr h6)) | exact h0 (fun z => absurd z.1 (Int32.not_le.mpr h1_))
    · refine aw_iconst (v := 1) dT_isBelow_9 (by decide) ?_
      refine aw_goto (tgt := 14) dT_isBelow_10 (by decide) ?_
      refine aw_zret dT_isBelow_14 rfl rfl ?_
      first | exact h1 ⟨Int32.not_lt.mp h1_, Int32.not_le.mp h6⟩ | exact h0 (fun z => absurd z.2 (Int32.not_lt.mpr h6)) | exact h0 (fun z => absurd z.1 (Int32.not_le.mpr h1_))

end SP1
