/-! the wrappers of the law: what the class answers, as a code and a long -/
section ST30
theorem aw_xt {G : aw_G} {M : aw_M} {d : Nat} {Q : aw_O → aw_J → Prop} {pc : Nat} {L : List (Option Value)} {E : String} {J : aw_J} {kc ks : Nat} (pre : List (Nat × Nat × Nat × Nat)) (h : Nat × Nat × Nat × Nat) (suf : List (Nat × Nat × Nat × Nat)) (nm : String) (h1 : M.2.2.2.2 = pre ++ h :: suf) (h2 : ∀ z ∈ pre, z.2.2.2 ≠ 0 ∧ ∃ nm' : String, Cond.classLink M.1.cls z.2.2.2 nm' ∈ aw_TB ∧ (E, nm') ∈ aw_NC) (h3 : covers ⟨h.1, h.2.1, h.2.2.1, h.2.2.2⟩ pc = true) (h4 : h.2.2.2 ≠ 0) (h5 : Cond.classLink M.1.cls h.2.2.2 nm ∈ aw_TB) (h6 : Cond.castable E nm ∈ aw_NB) (h7 : ∀ q : Nat, aw_W G M d Q h.2.2.1 L [.ref q] J kc ks) : aw_X G M d Q pc L E J kc ks := ⟨pre, h, suf, nm, h1, h2, h3, h4, h5, h6, h7⟩
theorem ww_file {G : aw_G} {d : Nat} {Q : aw_O → aw_J → Prop} {J : aw_J} {kc ks : Nat} {x o mc ms : Nat} {a : Int} {b : Int} {c : Int} {e : Int} {PV : Int → aw_J → Prop} {P1 : aw_J → Prop} {P2 : aw_J → Prop} (hkc : mc ≤ kc) (hks : ms ≤ ks) (hx : ∃ vs, J x = some (.inr (8, vs))) (hc : ∀ Q' : aw_O → aw_J → Prop, (∀ v J', PV v J' → Q' (.inl (some (.int (iI v)))) J') → (∀ J', P1 J' → Q' (.inr "java/lang/IllegalArgumentException") J') → (∀ J', P2 J' → Q' (.inr "java/lang/IllegalStateException") J') → aw_W G mT_file d Q' 0 [some (.ref x), some (.int (iI a)), some (.int (iI b)), some (.int (iI c)), some (.int (iI e)), none] [] J mc ms) (hv : ∀ v J', PV v J' → ∃ f, J' o = some (.inl (G.2.2.1 2, 1, .inr (.inl f))) ∧ Q (.inl (some (.int (iI 0)))) (aw_up J' o (.inl (G.2.2.1 2, 1, .inr (.inl (vp_updL f 0 (iI v).toInt64)))))) (h1 : ∀ J', P1 J' → Q (.inl (some (.int (iI 1)))) J') (h2 : ∀ J', P2 J' → Q (.inl (some (.int (iI 2)))) J') : aw_W G mW_file (d + 1) Q 0 [some (.ref x), some (.int (iI a)), some (.int (iI b)), some (.int (iI c)), some (.int (iI e)), some (.ref o), none] [] J kc ks := by
  obtain ⟨vx, hx⟩ := hx
  first | refine aw_aload dW_file_0 rfl ?_ | refine aw_aloadQ dW_file_0 rfl ?_ | refine aw_aloadN dW_file_0 rfl ?_
  refine ai_iconst dW_file_2 ?_
  first | refine aw_aload_n dW_file_3 rfl ?_ | refine aw_aload_nQ dW_file_3 rfl ?_ | refine aw_aload_nN dW_file_3 rfl ?_
  refine aw_iload_n dW_file_4 rfl ?_
  refine aw_iload_n dW_file_5 rfl ?_
  refine aw_iload_n dW_file_6 rfl ?_
  refine aw_iload dW_file_7 rfl ?_
  refine aw_callX4 (mc' := mc) (ms' := ms) (kc' := kc - mc) (ks' := ks - ms) dW_file_9 cW_7 hx (Nat.le_of_ble_eq_true rfl) (Nat.le_of_ble_eq_true rfl) (by omega) (by omega) ?_
  refine hc _ (fun v J' hp => ?_) (fun J' hp => ?_) (fun J' hp => ?_)
  · obtain ⟨f, hJo, hqv⟩ := hv v J' hp
    refine aw_i2l dW_file_12 ?_
    refine aw_last dW_file_13 hJo (iI_in (by decide) (by decide) (by decide)) ?_
    refine aw_goto (tgt := 25) dW_file_14 (by decide) ?_
    refine ai_iconst dW_file_25 ?_
    refine aw_iret dW_file_26 rfl ?_
    rw [iI_cl (by decide)]
    exact hqv
  · refine aw_xt [] (0, 14, 17, 13) [(0, 14, 21, 15)] "java/lang/IllegalArgumentException" rfl (fun _ h => nomatch h) (by decide) (by decide) wT_1_220 (by decide) (fun q => ?_)
    refine aw_astore dW_file_17 (by decide) rfl ?_
    refine ai_iconst dW_file_19 ?_
    refine aw_iret dW_file_20 rfl ?_
    exact h1 J' hp
  · refine aw_xt [(0, 14, 17, 13)] (0, 14, 21, 15) [] "java/lang/IllegalStateException" rfl (List.forall_mem_cons.mpr ⟨⟨by decide, "java/lang/IllegalArgumentException", wT_1_220, by decide⟩, (fun _ h => nomatch h)⟩) (by decide) (by decide) wT_1_221 (by decide) (fun q => ?_)
    refine aw_astore dW_file_21 (by decide) rfl ?_
    refine ai_iconst dW_file_23 ?_
    refine aw_iret dW_file_24 rfl ?_
    exact h2 J' hp

theorem ww_descriptor {G : aw_G} {d : Nat} {Q : aw_O → aw_J → Prop} {J : aw_J} {kc ks : Nat} {x o mc ms : Nat} {a : Int} {b : Int} {c : Int} {PV : Int → aw_J → Prop} {P1 : aw_J → Prop} {P2 : aw_J → Prop} (hkc : mc ≤ kc) (hks : ms ≤ ks) (hx : ∃ vs, J x = some (.inr (8, vs))) (hc : ∀ Q' : aw_O → aw_J → Prop, (∀ v J', PV v J' → Q' (.inl (some (.int (iI v)))) J') → (∀ J', P1 J' → Q' (.inr "java/lang/IllegalArgumentException") J') → (∀ J', P2 J' → Q' (.inr "java/lang/IllegalStateException") J') → aw_W G mT_descriptor d Q' 0 [some (.ref x), some (.int (iI a)), some (.int (iI b)), some (.int (iI c)), none] [] J mc ms) (hv : ∀ v J', PV v J' → ∃ f, J' o = some (.inl (G.2.2.1 2, 1, .inr (.inl f))) ∧ Q (.inl (some (.int (iI 0)))) (aw_up J' o (.inl (G.2.2.1 2, 1, .inr (.inl (vp_updL f 0 (iI v).toInt64)))))) (h1 : ∀ J', P1 J' → Q (.inl (some (.int (iI 1)))) J') (h2 : ∀ J', P2 J' → Q (.inl (some (.int (iI 2)))) J') : aw_W G mW_descriptor (d + 1) Q 0 [some (.ref x), some (.int (iI a)), some (.int (iI b)), some (.int (iI c)), some (.ref o), none] [] J kc ks := by
  obtain ⟨vx, hx⟩ := hx
  first | refine aw_aload dW_descriptor_0 rfl ?_ | refine aw_aloadQ dW_descriptor_0 rfl ?_ | refine aw_aloadN dW_descriptor_0 rfl ?_
  refine ai_iconst dW_descriptor_2 ?_
  first | refine aw_aload_n dW_descriptor_3 rfl ?_ | refine aw_aload_nQ dW_descriptor_3 rfl ?_ | refine aw_aload_nN dW_descriptor_3 rfl ?_
  refine aw_iload_n dW_descriptor_4 rfl ?_
  refine aw_iload_n dW_descriptor_5 rfl ?_
  refine aw_iload_n dW_descriptor_6 rfl ?_
  refine aw_callX3 (mc' := mc) (ms' := ms) (kc' := kc - mc) (ks' := ks - ms) dW_descriptor_7 cW_17 hx (Nat.le_of_ble_eq_true rfl) (Nat.le_of_ble_eq_true rfl) (by omega) (by omega) ?_
  refine hc _ (fun v J' hp => ?_) (fun J' hp => ?_) (fun J' hp => ?_)
  · obtain ⟨f, hJo, hqv⟩ := hv v J' hp
    refine aw_i2l dW_descriptor_10 ?_
    refine aw_last dW_descriptor_11 hJo (iI_in (by decide) (by decide) (by decide)) ?_
    refine aw_goto (tgt := 23) dW_descriptor_12 (by decide) ?_
    refine ai_iconst dW_descriptor_23 ?_
    refine aw_iret dW_descriptor_24 rfl ?_
    rw [iI_cl (by decide)]
    exact hqv
  · refine aw_xt [] (0, 12, 15, 13) [(0, 12, 19, 15)] "java/lang/IllegalArgumentException" rfl (fun _ h => nomatch h) (by decide) (by decide) wT_1_220 (by decide) (fun q => ?_)
    refine aw_astore dW_descriptor_15 (by decide) rfl ?_
    refine ai_iconst dW_descriptor_17 ?_
    refine aw_iret dW_descriptor_18 rfl ?_
    exact h1 J' hp
  · refine aw_xt [(0, 12, 15, 13)] (0, 12, 19, 15) [] "java/lang/IllegalStateException" rfl (List.forall_mem_cons.mpr ⟨⟨by decide, "java/lang/IllegalArgumentException", wT_1_220, by decide⟩, (fun _ h => nomatch h)⟩) (by decide) (by decide) wT_1_221 (by decide) (fun q => ?_)
    refine aw_astore dW_descriptor_19 (by decide) rfl ?_
    refine ai_iconst dW_descriptor_21 ?_
    refine aw_iret dW_descriptor_22 rfl ?_
    exact h2 J' hp

theorem ww_wipe {G : aw_G} {d : Nat} {Q : aw_O → aw_J → Prop} {J : aw_J} {kc ks : Nat} {x mc ms : Nat} {a : Int} {PV : aw_J → Prop} {P1 : aw_J → Prop} (hkc : mc ≤ kc) (hks : ms ≤ ks) (hx : ∃ vs, J x = some (.inr (8, vs))) (hc : ∀ Q' : aw_O → aw_J → Prop, (∀ J', PV J' → Q' (.inl none) J') → (∀ J', P1 J' → Q' (.inr "java/lang/IllegalArgumentException") J') → aw_W G mT_wipe d Q' 0 [some (.ref x), some (.int (iI a)), none] [] J mc ms) (hv : ∀ J', PV J' → Q (.inl (some (.int (iI 0)))) J') (h1 : ∀ J', P1 J' → Q (.inl (some (.int (iI 1)))) J') : aw_W G mW_wipe (d + 1) Q 0 [some (.ref x), some (.int (iI a)), none] [] J kc ks := by
  obtain ⟨vx, hx⟩ := hx
  first | refine aw_aload_n dW_wipe_0 rfl ?_ | refine aw_aload_nQ dW_wipe_0 rfl ?_ | refine aw_aload_nN dW_wipe_0 rfl ?_
  refine aw_iload_n dW_wipe_1 rfl ?_
  refine aw_callX1 (mc' := mc) (ms' := ms) (kc' := kc - mc) (ks' := ks - ms) dW_wipe_2 cW_21 hx (Nat.le_of_ble_eq_true rfl) (Nat.le_of_ble_eq_true rfl) (by omega) (by omega) ?_
  refine hc _ (fun J' hp => ?_) (fun J' hp => ?_)
  · refine aw_goto (tgt := 11) dW_wipe_5 (by decide) ?_
    refine ai_iconst dW_wipe_11 ?_
    refine aw_iret dW_wipe_12 rfl ?_
    exact hv J' hp
  · refine aw_xt [] (0, 5, 8, 13) [] "java/lang/IllegalArgumentException" rfl (fun _ h => nomatch h) (by decide) (by decide) wT_1_220 (by decide) (fun q => ?_)
    refine aw_astore_n dW_wipe_8 (by decide) rfl ?_
    refine ai_iconst dW_wipe_9 ?_
    refine aw_iret dW_wipe_10 rfl ?_
    exact h1 J' hp

theorem ww_child {G : aw_G} {d : Nat} {Q : aw_O → aw_J → Prop} {J : aw_J} {kc ks : Nat} {x o mc ms : Nat} {a : Int} {PV : Int → aw_J → Prop} {P1 : aw_J → Prop} {P2 : aw_J → Prop} (hkc : mc ≤ kc) (hks : ms ≤ ks) (hx : ∃ vs, J x = some (.inr (8, vs))) (hc : ∀ Q' : aw_O → aw_J → Prop, (∀ v J', PV v J' → Q' (.inl (some (.int (iI v)))) J') → (∀ J', P1 J' → Q' (.inr "java/lang/IllegalArgumentException") J') → (∀ J', P2 J' → Q' (.inr "java/lang/IllegalStateException") J') → aw_W G mT_child d Q' 0 [some (.ref x), some (.int (iI a)), none] [] J mc ms) (hv : ∀ v J', PV v J' → ∃ f, J' o = some (.inl (G.2.2.1 2, 1, .inr (.inl f))) ∧ Q (.inl (some (.int (iI 0)))) (aw_up J' o (.inl (G.2.2.1 2, 1, .inr (.inl (vp_updL f 0 (iI v).toInt64)))))) (h1 : ∀ J', P1 J' → Q (.inl (some (.int (iI 1)))) J') (h2 : ∀ J', P2 J' → Q (.inl (some (.int (iI 2)))) J') : aw_W G mW_child (d + 1) Q 0 [some (.ref x), some (.int (iI a)), some (.ref o), none] [] J kc ks := by
  obtain ⟨vx, hx⟩ := hx
  first | refine aw_aload_n dW_child_0 rfl ?_ | refine aw_aload_nQ dW_child_0 rfl ?_ | refine aw_aload_nN dW_child_0 rfl ?_
  refine ai_iconst dW_child_1 ?_
  first | refine aw_aload_n dW_child_2 rfl ?_ | refine aw_aload_nQ dW_child_2 rfl ?_ | refine aw_aload_nN dW_child_2 rfl ?_
  refine aw_iload_n dW_child_3 rfl ?_
  refine aw_callX1 (mc' := mc) (ms' := ms) (kc' := kc - mc) (ks' := ks - ms) dW_child_4 cW_25 hx (Nat.le_of_ble_eq_true rfl) (Nat.le_of_ble_eq_true rfl) (by omega) (by omega) ?_
  refine hc _ (fun v J' hp => ?_) (fun J' hp => ?_) (fun J' hp => ?_)
  · obtain ⟨f, hJo, hqv⟩ := hv v J' hp
    refine aw_i2l dW_child_7 ?_
    refine aw_last dW_child_8 hJo (iI_in (by decide) (by decide) (by decide)) ?_
    refine aw_goto (tgt := 18) dW_child_9 (by decide) ?_
    refine ai_iconst dW_child_18 ?_
    refine aw_iret dW_child_19 rfl ?_
    rw [iI_cl (by decide)]
    exact hqv
  · refine aw_xt [] (0, 9, 12, 13) [(0, 9, 15, 15)] "java/lang/IllegalArgumentException" rfl (fun _ h => nomatch h) (by decide) (by decide) wT_1_220 (by decide) (fun q => ?_)
    refine aw_astore_n dW_child_12 (by decide) rfl ?_
    refine ai_iconst dW_child_13 ?_
    refine aw_iret dW_child_14 rfl ?_
    exact h1 J' hp
  · refine aw_xt [(0, 9, 12, 13)] (0, 9, 15, 15) [] "java/lang/IllegalStateException" rfl (List.forall_mem_cons.mpr ⟨⟨by decide, "java/lang/IllegalArgumentException", wT_1_220, by decide⟩, (fun _ h => nomatch h)⟩) (by decide) (by decide) wT_1_221 (by decide) (fun q => ?_)
    refine aw_astore_n dW_child_15 (by decide) rfl ?_
    refine ai_iconst dW_child_16 ?_
    refine aw_iret dW_child_17 rfl ?_
    exact h2 J' hp

theorem ww_add {G : aw_G} {d : Nat} {Q : aw_O → aw_J → Prop} {J : aw_J} {kc ks : Nat} {x o mc ms : Nat} {a : Int} {b : Int} {c : Int} {PV : Int → aw_J → Prop} {P1 : aw_J → Prop} {P2 : aw_J → Prop} (hkc : mc ≤ kc) (hks : ms ≤ ks) (hx : ∃ vs, J x = some (.inr (8, vs))) (hc : ∀ Q' : aw_O → aw_J → Prop, (∀ v J', PV v J' → Q' (.inl (some (.int (iI v)))) J') → (∀ J', P1 J' → Q' (.inr "java/lang/IllegalArgumentException") J') → (∀ J', P2 J' → Q' (.inr "java/lang/IllegalStateException") J') → aw_W G mT_add d Q' 0 [some (.ref x), some (.int (iI a)), some (.int (iI b)), some (.int (iI c)), none] [] J mc ms) (hv : ∀ v J', PV v J' → (v = 0 ∨ v = 1) ∧ ∃ f, J' o = some (.inl (G.2.2.1 2, 1, .inr (.inl f))) ∧ Q (.inl (some (.int (iI 0)))) (aw_up J' o (.inl (G.2.2.1 2, 1, .inr (.inl (vp_updL f 0 (if v = 0 then 0 else 1))))))) (h1 : ∀ J', P1 J' → Q (.inl (some (.int (iI 1)))) J') (h2 : ∀ J', P2 J' → Q (.inl (some (.int (iI 2)))) J') : aw_W G mW_add (d + 1) Q 0 [some (.ref x), some (.int (iI a)), some (.int (iI b)), some (.int (iI c)), some (.ref o), none] [] J kc ks := by
  obtain ⟨vx, hx⟩ := hx
  first | refine aw_aload dW_add_0 rfl ?_ | refine aw_aloadQ dW_add_0 rfl ?_ | refine aw_aloadN dW_add_0 rfl ?_
  refine ai_iconst dW_add_2 ?_
  first | refine aw_aload_n dW_add_3 rfl ?_ | refine aw_aload_nQ dW_add_3 rfl ?_ | refine aw_aload_nN dW_add_3 rfl ?_
  refine aw_iload_n dW_add_4 rfl ?_
  refine aw_iload_n dW_add_5 rfl ?_
  refine aw_iload_n dW_add_6 rfl ?_
  refine aw_callX3 (mc' := mc) (ms' := ms) (kc' := kc - mc) (ks' := ks - ms) dW_add_7 cW_29 hx (Nat.le_of_ble_eq_true rfl) (Nat.le_of_ble_eq_true rfl) (by omega) (by omega) ?_
  refine hc _ (fun v J' hp => ?_) (fun J' hp => ?_) (fun J' hp => ?_)
  · obtain ⟨hv01, f, hJo, hqv⟩ := hv v J' hp
    rcases hv01 with e | e
    · subst e
      refine ai_if_eq (tgt := 17) dW_add_10 (by decide) (by decide) (fun _ => ?_) (fun z => absurd rfl z)
      refine aw_lconst (v := 0) dW_add_17 (by decide) ?_
      refine aw_last dW_add_18 hJo (iI_in (by decide) (by decide) (by decide)) ?_
      refine aw_goto (tgt := 30) dW_add_19 (by decide) ?_
      refine ai_iconst dW_add_30 ?_
      refine aw_iret dW_add_31 rfl ?_
      rw [iI_cl (by decide)]
      exact hqv
    · subst e
      refine ai_if_eq (tgt := 17) dW_add_10 (by decide) (by decide) (fun z => absurd z (by decide)) (fun _ => ?_)
      refine aw_lconst (v := 1) dW_add_13 (by decide) ?_
      refine aw_goto (tgt := 18) dW_add_14 (by decide) ?_
      refine aw_last dW_add_18 hJo (iI_in (by decide) (by decide) (by decide)) ?_
      refine aw_goto (tgt := 30) dW_add_19 (by decide) ?_
      refine ai_iconst dW_add_30 ?_
      refine aw_iret dW_add_31 rfl ?_
      rw [iI_cl (by decide)]
      exact hqv
  · refine aw_xt [] (0, 19, 22, 13) [(0, 19, 26, 15)] "java/lang/IllegalArgumentException" rfl (fun _ h => nomatch h) (by decide) (by decide) wT_1_220 (by decide) (fun q => ?_)
    refine aw_astore dW_add_22 (by decide) rfl ?_
    refine ai_iconst dW_add_24 ?_
    refine aw_iret dW_add_25 rfl ?_
    exact h1 J' hp
  · refine aw_xt [(0, 19, 22, 13)] (0, 19, 26, 15) [] "java/lang/IllegalStateException" rfl (List.forall_mem_cons.mpr ⟨⟨by decide, "java/lang/IllegalArgumentException", wT_1_220, by decide⟩, (fun _ h => nomatch h)⟩) (by decide) (by decide) wT_1_221 (by decide) (fun q => ?_)
    refine aw_astore dW_add_26 (by decide) rfl ?_
    refine ai_iconst dW_add_28 ?_
    refine aw_iret dW_add_29 rfl ?_
    exact h2 J' hp

theorem ww_filter {G : aw_G} {d : Nat} {Q : aw_O → aw_J → Prop} {J : aw_J} {kc ks : Nat} {x mc ms : Nat} {a : Int} {b : Int} {c : Int64} {e : Int64} {PV : aw_J → Prop} {P1 : aw_J → Prop} {P2 : aw_J → Prop} (hkc : mc ≤ kc) (hks : ms ≤ ks) (hx : ∃ vs, J x = some (.inr (8, vs))) (hc : ∀ Q' : aw_O → aw_J → Prop, (∀ J', PV J' → Q' (.inl none) J') → (∀ J', P1 J' → Q' (.inr "java/lang/IllegalArgumentException") J') → (∀ J', P2 J' → Q' (.inr "java/lang/IllegalStateException") J') → aw_W G mT_filter d Q' 0 [some (.ref x), some (.int (iI a)), some (.int (iI b)), some (.long c), none, some (.long e), none, none] [] J mc ms) (hv : ∀ J', PV J' → Q (.inl (some (.int (iI 0)))) J') (h1 : ∀ J', P1 J' → Q (.inl (some (.int (iI 1)))) J') (h2 : ∀ J', P2 J' → Q (.inl (some (.int (iI 2)))) J') : aw_W G mW_filter (d + 1) Q 0 [some (.ref x), some (.int (iI a)), some (.int (iI b)), some (.long c), none, some (.long e), none, none] [] J kc ks := by
  obtain ⟨vx, hx⟩ := hx
  first | refine aw_aload_n dW_filter_0 rfl ?_ | refine aw_aload_nQ dW_filter_0 rfl ?_ | refine aw_aload_nN dW_filter_0 rfl ?_
  refine aw_iload_n dW_filter_1 rfl ?_
  refine aw_iload_n dW_filter_2 rfl ?_
  refine aw_lload_n dW_filter_3 rfl ?_
  refine aw_lload dW_filter_4 rfl ?_
  refine aw_callX4 (mc' := mc) (ms' := ms) (kc' := kc - mc) (ks' := ks - ms) dW_filter_6 cW_33 hx (Nat.le_of_ble_eq_true rfl) (Nat.le_of_ble_eq_true rfl) (by omega) (by omega) ?_
  refine hc _ (fun J' hp => ?_) (fun J' hp => ?_) (fun J' hp => ?_)
  · refine aw_goto (tgt := 20) dW_filter_9 (by decide) ?_
    refine ai_iconst dW_filter_20 ?_
    refine aw_iret dW_filter_21 rfl ?_
    exact hv J' hp
  · refine aw_xt [] (0, 9, 12, 13) [(0, 9, 16, 15)] "java/lang/IllegalArgumentException" rfl (fun _ h => nomatch h) (by decide) (by decide) wT_1_220 (by decide) (fun q => ?_)
    refine aw_astore dW_filter_12 (by decide) rfl ?_
    refine ai_iconst dW_filter_14 ?_
    refine aw_iret dW_filter_15 rfl ?_
    exact h1 J' hp
  · refine aw_xt [(0, 9, 12, 13)] (0, 9, 16, 15) [] "java/lang/IllegalStateException" rfl (List.forall_mem_cons.mpr ⟨⟨by decide, "java/lang/IllegalArgumentException", wT_1_220, by decide⟩, (fun _ h => nomatch h)⟩) (by decide) (by decide) wT_1_221 (by decide) (fun q => ?_)
    refine aw_astore dW_filter_16 (by decide) rfl ?_
    refine ai_iconst dW_filter_18 ?_
    refine aw_iret dW_filter_19 rfl ?_
    exact h2 J' hp

theorem ww_lock {G : aw_G} {d : Nat} {Q : aw_O → aw_J → Prop} {J : aw_J} {kc ks : Nat} {x o mc ms : Nat} {a : Int} {PV : Int → aw_J → Prop} {P1 : aw_J → Prop} {P2 : aw_J → Prop} {P3 : aw_J → Prop} (hkc : mc ≤ kc) (hks : ms ≤ ks) (hx : ∃ vs, J x = some (.inr (8, vs))) (hc : ∀ Q' : aw_O → aw_J → Prop, (∀ v J', PV v J' → Q' (.inl (some (.int (iI v)))) J') → (∀ J', P1 J' → Q' (.inr "java/lang/IllegalArgumentException") J') → (∀ J', P2 J' → Q' (.inr "java/lang/IllegalStateException") J') → (∀ J', P3 J' → Q' (.inr "java/lang/UnsupportedOperationException") J') → aw_W G mT_lock d Q' 0 [some (.ref x), some (.int (iI a)), none, none] [] J mc ms) (hv : ∀ v J', PV v J' → ∃ f, J' o = some (.inl (G.2.2.1 2, 1, .inr (.inl f))) ∧ Q (.inl (some (.int (iI 0)))) (aw_up J' o (.inl (G.2.2.1 2, 1, .inr (.inl (vp_updL f 0 (iI v).toInt64)))))) (h1 : ∀ J', P1 J' → Q (.inl (some (.int (iI 1)))) J') (h2 : ∀ J', P2 J' → Q (.inl (some (.int (iI 2)))) J') (h3 : ∀ J', P3 J' → Q (.inl (some (.int (iI 3)))) J') : aw_W G mW_lock (d + 1) Q 0 [some (.ref x), some (.int (iI a)), some (.ref o), none] [] J kc ks := by
  obtain ⟨vx, hx⟩ := hx
  first | refine aw_aload_n dW_lock_0 rfl ?_ | refine aw_aload_nQ dW_lock_0 rfl ?_ | refine aw_aload_nN dW_lock_0 rfl ?_
  refine ai_iconst dW_lock_1 ?_
  first | refine aw_aload_n dW_lock_2 rfl ?_ | refine aw_aload_nQ dW_lock_2 rfl ?_ | refine aw_aload_nN dW_lock_2 rfl ?_
  refine aw_iload_n dW_lock_3 rfl ?_
  refine aw_callX1 (mc' := mc) (ms' := ms) (kc' := kc - mc) (ks' := ks - ms) dW_lock_4 cW_37 hx (Nat.le_of_ble_eq_true rfl) (Nat.le_of_ble_eq_true rfl) (by omega) (by omega) ?_
  refine hc _ (fun v J' hp => ?_) (fun J' hp => ?_) (fun J' hp => ?_) (fun J' hp => ?_)
  · obtain ⟨f, hJo, hqv⟩ := hv v J' hp
    refine aw_i2l dW_lock_7 ?_
    refine aw_last dW_lock_8 hJo (iI_in (by decide) (by decide) (by decide)) ?_
    refine aw_goto (tgt := 21) dW_lock_9 (by decide) ?_
    refine ai_iconst dW_lock_21 ?_
    refine aw_iret dW_lock_22 rfl ?_
    rw [iI_cl (by decide)]
    exact hqv
  · refine aw_xt [] (0, 9, 12, 13) [(0, 9, 15, 15), (0, 9, 18, 40)] "java/lang/IllegalArgumentException" rfl (fun _ h => nomatch h) (by decide) (by decide) wT_1_220 (by decide) (fun q => ?_)
    refine aw_astore_n dW_lock_12 (by decide) rfl ?_
    refine ai_iconst dW_lock_13 ?_
    refine aw_iret dW_lock_14 rfl ?_
    exact h1 J' hp
  · refine aw_xt [(0, 9, 12, 13)] (0, 9, 15, 15) [(0, 9, 18, 40)] "java/lang/IllegalStateException" rfl (List.forall_mem_cons.mpr ⟨⟨by decide, "java/lang/IllegalArgumentException", wT_1_220, by decide⟩, (fun _ h => nomatch h)⟩) (by decide) (by decide) wT_1_221 (by decide) (fun q => ?_)
    refine aw_astore_n dW_lock_15 (by decide) rfl ?_
    refine ai_iconst dW_lock_16 ?_
    refine aw_iret dW_lock_17 rfl ?_
    exact h2 J' hp
  · refine aw_xt [(0, 9, 12, 13), (0, 9, 15, 15)] (0, 9, 18, 40) [] "java/lang/UnsupportedOperationException" rfl (List.forall_mem_cons.mpr ⟨⟨by decide, "java/lang/IllegalArgumentException", wT_1_220, by decide⟩, (List.forall_mem_cons.mpr ⟨⟨by decide, "java/lang/IllegalStateException", wT_1_221, by decide⟩, (fun _ h => nomatch h)⟩)⟩) (by decide) (by decide) wT_2_213 (by decide) (fun q => ?_)
    refine aw_astore_n dW_lock_18 (by decide) rfl ?_
    refine ai_iconst dW_lock_19 ?_
    refine aw_iret dW_lock_20 rfl ?_
    exact h3 J' hp

theorem ww_release {G : aw_G} {d : Nat} {Q : aw_O → aw_J → Prop} {J : aw_J} {kc ks : Nat} {x o mc ms : Nat} {a : Int} {PV : Int → aw_J → Prop} {P1 : aw_J → Prop} {P2 : aw_J → Prop} (hkc : mc ≤ kc) (hks : ms ≤ ks) (hx : ∃ vs, J x = some (.inr (8, vs))) (hc : ∀ Q' : aw_O → aw_J → Prop, (∀ v J', PV v J' → Q' (.inl (some (.int (iI v)))) J') → (∀ J', P1 J' → Q' (.inr "java/lang/IllegalArgumentException") J') → (∀ J', P2 J' → Q' (.inr "java/lang/IllegalStateException") J') → aw_W G mT_release d Q' 0 [some (.ref x), some (.int (iI a)), none, none] [] J mc ms) (hv : ∀ v J', PV v J' → ∃ f, J' o = some (.inl (G.2.2.1 2, 1, .inr (.inl f))) ∧ Q (.inl (some (.int (iI 0)))) (aw_up J' o (.inl (G.2.2.1 2, 1, .inr (.inl (vp_updL f 0 (iI v).toInt64)))))) (h1 : ∀ J', P1 J' → Q (.inl (some (.int (iI 1)))) J') (h2 : ∀ J', P2 J' → Q (.inl (some (.int (iI 2)))) J') : aw_W G mW_release (d + 1) Q 0 [some (.ref x), some (.int (iI a)), some (.ref o), none] [] J kc ks := by
  obtain ⟨vx, hx⟩ := hx
  first | refine aw_aload_n dW_release_0 rfl ?_ | refine aw_aload_nQ dW_release_0 rfl ?_ | refine aw_aload_nN dW_release_0 rfl ?_
  refine ai_iconst dW_release_1 ?_
  first | refine aw_aload_n dW_release_2 rfl ?_ | refine aw_aload_nQ dW_release_2 rfl ?_ | refine aw_aload_nN dW_release_2 rfl ?_
  refine aw_iload_n dW_release_3 rfl ?_
  refine aw_callX1 (mc' := mc) (ms' := ms) (kc' := kc - mc) (ks' := ks - ms) dW_release_4 cW_42 hx (Nat.le_of_ble_eq_true rfl) (Nat.le_of_ble_eq_true rfl) (by omega) (by omega) ?_
  refine hc _ (fun v J' hp => ?_) (fun J' hp => ?_) (fun J' hp => ?_)
  · obtain ⟨f, hJo, hqv⟩ := hv v J' hp
    refine aw_i2l dW_release_7 ?_
    refine aw_last dW_release_8 hJo (iI_in (by decide) (by decide) (by decide)) ?_
    refine aw_goto (tgt := 18) dW_release_9 (by decide) ?_
    refine ai_iconst dW_release_18 ?_
    refine aw_iret dW_release_19 rfl ?_
    rw [iI_cl (by decide)]
    exact hqv
  · refine aw_xt [] (0, 9, 12, 13) [(0, 9, 15, 15)] "java/lang/IllegalArgumentException" rfl (fun _ h => nomatch h) (by decide) (by decide) wT_1_220 (by decide) (fun q => ?_)
    refine aw_astore_n dW_release_12 (by decide) rfl ?_
    refine ai_iconst dW_release_13 ?_
    refine aw_iret dW_release_14 rfl ?_
    exact h1 J' hp
  · refine aw_xt [(0, 9, 12, 13)] (0, 9, 15, 15) [] "java/lang/IllegalStateException" rfl (List.forall_mem_cons.mpr ⟨⟨by decide, "java/lang/IllegalArgumentException", wT_1_220, by decide⟩, (fun _ h => nomatch h)⟩) (by decide) (by decide) wT_1_221 (by decide) (fun q => ?_)
    refine aw_astore_n dW_release_15 (by decide) rfl ?_
    refine ai_iconst dW_release_16 ?_
    refine aw_iret dW_release_17 rfl ?_
    exact h2 J' hp

theorem ww_loader {G : aw_G} {d : Nat} {Q : aw_O → aw_J → Prop} {J : aw_J} {kc ks : Nat} {x o mc ms : Nat} {a : Int} {b : Int} {PV : Int → aw_J → Prop} {P1 : aw_J → Prop} (hkc : mc ≤ kc) (hks : ms ≤ ks) (hx : ∃ vs, J x = some (.inr (8, vs))) (hc : ∀ Q' : aw_O → aw_J → Prop, (∀ v J', PV v J' → Q' (.inl (some (.int (iI v)))) J') → (∀ J', P1 J' → Q' (.inr "java/lang/IllegalArgumentException") J') → aw_W G mT_loader d Q' 0 [some (.ref x), some (.int (iI a)), some (.int (iI b)), none] [] J mc ms) (hv : ∀ v J', PV v J' → ∃ f, J' o = some (.inl (G.2.2.1 2, 1, .inr (.inl f))) ∧ Q (.inl (some (.int (iI 0)))) (aw_up J' o (.inl (G.2.2.1 2, 1, .inr (.inl (vp_updL f 0 (iI v).toInt64)))))) (h1 : ∀ J', P1 J' → Q (.inl (some (.int (iI 1)))) J') : aw_W G mW_loader (d + 1) Q 0 [some (.ref x), some (.int (iI a)), some (.int (iI b)), some (.ref o), none] [] J kc ks := by
  obtain ⟨vx, hx⟩ := hx
  first | refine aw_aload_n dW_loader_0 rfl ?_ | refine aw_aload_nQ dW_loader_0 rfl ?_ | refine aw_aload_nN dW_loader_0 rfl ?_
  refine ai_iconst dW_loader_1 ?_
  first | refine aw_aload_n dW_loader_2 rfl ?_ | refine aw_aload_nQ dW_loader_2 rfl ?_ | refine aw_aload_nN dW_loader_2 rfl ?_
  refine aw_iload_n dW_loader_3 rfl ?_
  refine aw_iload_n dW_loader_4 rfl ?_
  refine aw_callX2 (mc' := mc) (ms' := ms) (kc' := kc - mc) (ks' := ks - ms) dW_loader_5 cW_45 hx (Nat.le_of_ble_eq_true rfl) (Nat.le_of_ble_eq_true rfl) (by omega) (by omega) ?_
  refine hc _ (fun v J' hp => ?_) (fun J' hp => ?_)
  · obtain ⟨f, hJo, hqv⟩ := hv v J' hp
    refine aw_i2l dW_loader_8 ?_
    refine aw_last dW_loader_9 hJo (iI_in (by decide) (by decide) (by decide)) ?_
    refine aw_goto (tgt := 17) dW_loader_10 (by decide) ?_
    refine ai_iconst dW_loader_17 ?_
    refine aw_iret dW_loader_18 rfl ?_
    rw [iI_cl (by decide)]
    exact hqv
  · refine aw_xt [] (0, 10, 13, 13) [] "java/lang/IllegalArgumentException" rfl (fun _ h => nomatch h) (by decide) (by decide) wT_1_220 (by decide) (fun q => ?_)
    refine aw_astore dW_loader_13 (by decide) rfl ?_
    refine ai_iconst dW_loader_15 ?_
    refine aw_iret dW_loader_16 rfl ?_
    exact h1 J' hp

theorem ww_load {G : aw_G} {d : Nat} {Q : aw_O → aw_J → Prop} {J : aw_J} {kc ks : Nat} {x o mc ms : Nat} {a : Int} {b : Int} {PV : Int → aw_J → Prop} {P1 : aw_J → Prop} {P2 : aw_J → Prop} {P3 : aw_J → Prop} {P4 : aw_J → Prop} (hkc : mc ≤ kc) (hks : ms ≤ ks) (hx : ∃ vs, J x = some (.inr (8, vs))) (hc : ∀ Q' : aw_O → aw_J → Prop, (∀ v J', PV v J' → Q' (.inl (some (.int (iI v)))) J') → (∀ J', P1 J' → Q' (.inr "java/lang/IllegalArgumentException") J') → (∀ J', P2 J' → Q' (.inr "java/lang/IllegalStateException") J') → (∀ J', P3 J' → Q' (.inr "java/util/NoSuchElementException") J') → (∀ J', P4 J' → Q' (.inr "java/lang/UnsupportedOperationException") J') → aw_W G mT_load d Q' 0 [some (.ref x), some (.int (iI a)), some (.int (iI b)), none] [] J mc ms) (hv : ∀ v J', PV v J' → ∃ f, J' o = some (.inl (G.2.2.1 2, 1, .inr (.inl f))) ∧ Q (.inl (some (.int (iI 0)))) (aw_up J' o (.inl (G.2.2.1 2, 1, .inr (.inl (vp_updL f 0 (iI v).toInt64)))))) (h1 : ∀ J', P1 J' → Q (.inl (some (.int (iI 1)))) J') (h2 : ∀ J', P2 J' → Q (.inl (some (.int (iI 2)))) J') (h3 : ∀ J', P3 J' → Q (.inl (some (.int (iI 3)))) J') (h4 : ∀ J', P4 J' → Q (.inl (some (.int (iI 4)))) J') : aw_W G mW_load (d + 1) Q 0 [some (.ref x), some (.int (iI a)), some (.int (iI b)), some (.ref o), none] [] J kc ks := by
  obtain ⟨vx, hx⟩ := hx
  first | refine aw_aload_n dW_load_0 rfl ?_ | refine aw_aload_nQ dW_load_0 rfl ?_ | refine aw_aload_nN dW_load_0 rfl ?_
  refine ai_iconst dW_load_1 ?_
  first | refine aw_aload_n dW_load_2 rfl ?_ | refine aw_aload_nQ dW_load_2 rfl ?_ | refine aw_aload_nN dW_load_2 rfl ?_
  refine aw_iload_n dW_load_3 rfl ?_
  refine aw_iload_n dW_load_4 rfl ?_
  refine aw_callX2 (mc' := mc) (ms' := ms) (kc' := kc - mc) (ks' := ks - ms) dW_load_5 cW_49 hx (Nat.le_of_ble_eq_true rfl) (Nat.le_of_ble_eq_true rfl) (by omega) (by omega) ?_
  refine hc _ (fun v J' hp => ?_) (fun J' hp => ?_) (fun J' hp => ?_) (fun J' hp => ?_) (fun J' hp => ?_)
  · obtain ⟨f, hJo, hqv⟩ := hv v J' hp
    refine aw_i2l dW_load_8 ?_
    refine aw_last dW_load_9 hJo (iI_in (by decide) (by decide) (by decide)) ?_
    refine aw_goto (tgt := 29) dW_load_10 (by decide) ?_
    refine ai_iconst dW_load_29 ?_
    refine aw_iret dW_load_30 rfl ?_
    rw [iI_cl (by decide)]
    exact hqv
  · refine aw_xt [] (0, 10, 13, 13) [(0, 10, 17, 15), (0, 10, 21, 53), (0, 10, 25, 40)] "java/lang/IllegalArgumentException" rfl (fun _ h => nomatch h) (by decide) (by decide) wT_1_220 (by decide) (fun q => ?_)
    refine aw_astore dW_load_13 (by decide) rfl ?_
    refine ai_iconst dW_load_15 ?_
    refine aw_iret dW_load_16 rfl ?_
    exact h1 J' hp
  · refine aw_xt [(0, 10, 13, 13)] (0, 10, 17, 15) [(0, 10, 21, 53), (0, 10, 25, 40)] "java/lang/IllegalStateException" rfl (List.forall_mem_cons.mpr ⟨⟨by decide, "java/lang/IllegalArgumentException", wT_1_220, by decide⟩, (fun _ h => nomatch h)⟩) (by decide) (by decide) wT_1_221 (by decide) (fun q => ?_)
    refine aw_astore dW_load_17 (by decide) rfl ?_
    refine ai_iconst dW_load_19 ?_
    refine aw_iret dW_load_20 rfl ?_
    exact h2 J' hp
  · refine aw_xt [(0, 10, 13, 13), (0, 10, 17, 15)] (0, 10, 21, 53) [(0, 10, 25, 40)] "java/util/NoSuchElementException" rfl (List.forall_mem_cons.mpr ⟨⟨by decide, "java/lang/IllegalArgumentException", wT_1_220, by decide⟩, (List.forall_mem_cons.mpr ⟨⟨by decide, "java/lang/IllegalStateException", wT_1_221, by decide⟩, (fun _ h => nomatch h)⟩)⟩) (by decide) (by decide) wT_3_80 (by decide) (fun q => ?_)
    refine aw_astore dW_load_21 (by decide) rfl ?_
    refine ai_iconst dW_load_23 ?_
    refine aw_iret dW_load_24 rfl ?_
    exact h3 J' hp
  · refine aw_xt [(0, 10, 13, 13), (0, 10, 17, 15), (0, 10, 21, 53)] (0, 10, 25, 40) [] "java/lang/UnsupportedOperationException" rfl (List.forall_mem_cons.mpr ⟨⟨by decide, "java/lang/IllegalArgumentException", wT_1_220, by decide⟩, (List.forall_mem_cons.mpr ⟨⟨by decide, "java/lang/IllegalStateException", wT_1_221, by decide⟩, (List.forall_mem_cons.mpr ⟨⟨by decide, "java/util/NoSuchElementException", wT_3_80, by decide⟩, (fun _ h => nomatch h)⟩)⟩)⟩) (by decide) (by decide) wT_2_213 (by decide) (fun q => ?_)
    refine aw_astore dW_load_25 (by decide) rfl ?_
    refine ai_iconst dW_load_27 ?_
    refine aw_iret dW_load_28 rfl ?_
    exact h4 J' hp

theorem ww_info {G : aw_G} {d : Nat} {Q : aw_O → aw_J → Prop} {J : aw_J} {kc ks : Nat} {x o mc ms : Nat} {a : Int} {b : Int} {PV : Int → aw_J → Prop} {P1 : aw_J → Prop} (hkc : mc ≤ kc) (hks : ms ≤ ks) (hx : ∃ vs, J x = some (.inr (8, vs))) (hc : ∀ Q' : aw_O → aw_J → Prop, (∀ v J', PV v J' → Q' (.inl (some (.int (iI v)))) J') → (∀ J', P1 J' → Q' (.inr "java/util/NoSuchElementException") J') → aw_W G mT_info d Q' 0 [some (.ref x), some (.int (iI a)), some (.int (iI b)), none] [] J mc ms) (hv : ∀ v J', PV v J' → ∃ f, J' o = some (.inl (G.2.2.1 2, 1, .inr (.inl f))) ∧ Q (.inl (some (.int (iI 0)))) (aw_up J' o (.inl (G.2.2.1 2, 1, .inr (.inl (vp_updL f 0 (iI v).toInt64)))))) (h1 : ∀ J', P1 J' → Q (.inl (some (.int (iI 1)))) J') : aw_W G mW_info (d + 1) Q 0 [some (.ref x), some (.int (iI a)), some (.int (iI b)), some (.ref o), none] [] J kc ks := by
  obtain ⟨vx, hx⟩ := hx
  first | refine aw_aload_n dW_info_0 rfl ?_ | refine aw_aload_nQ dW_info_0 rfl ?_ | refine aw_aload_nN dW_info_0 rfl ?_
  refine ai_iconst dW_info_1 ?_
  first | refine aw_aload_n dW_info_2 rfl ?_ | refine aw_aload_nQ dW_info_2 rfl ?_ | refine aw_aload_nN dW_info_2 rfl ?_
  refine aw_iload_n dW_info_3 rfl ?_
  refine aw_iload_n dW_info_4 rfl ?_
  refine aw_callX2 (mc' := mc) (ms' := ms) (kc' := kc - mc) (ks' := ks - ms) dW_info_5 cW_55 hx (Nat.le_of_ble_eq_true rfl) (Nat.le_of_ble_eq_true rfl) (by omega) (by omega) ?_
  refine hc _ (fun v J' hp => ?_) (fun J' hp => ?_)
  · obtain ⟨f, hJo, hqv⟩ := hv v J' hp
    refine aw_i2l dW_info_8 ?_
    refine aw_last dW_info_9 hJo (iI_in (by decide) (by decide) (by decide)) ?_
    refine aw_goto (tgt := 17) dW_info_10 (by decide) ?_
    refine ai_iconst dW_info_17 ?_
    refine aw_iret dW_info_18 rfl ?_
    rw [iI_cl (by decide)]
    exact hqv
  · refine aw_xt [] (0, 10, 13, 53) [] "java/util/NoSuchElementException" rfl (fun _ h => nomatch h) (by decide) (by decide) wT_3_80 (by decide) (fun q => ?_)
    refine aw_astore dW_info_13 (by decide) rfl ?_
    refine ai_iconst dW_info_15 ?_
    refine aw_iret dW_info_16 rfl ?_
    exact h1 J' hp

theorem ww_isA {G : aw_G} {d : Nat} {Q : aw_O → aw_J → Prop} {J : aw_J} {kc ks : Nat} {x o mc ms : Nat} {a : Int} {b : Int} {PV : Int → aw_J → Prop} {P1 : aw_J → Prop} (hkc : mc ≤ kc) (hks : ms ≤ ks) (hx : ∃ vs, J x = some (.inr (8, vs))) (hc : ∀ Q' : aw_O → aw_J → Prop, (∀ v J', PV v J' → Q' (.inl (some (.int (iI v)))) J') → (∀ J', P1 J' → Q' (.inr "java/util/NoSuchElementException") J') → aw_W G mT_isA d Q' 0 [some (.ref x), some (.int (iI a)), some (.int (iI b))] [] J mc ms) (hv : ∀ v J', PV v J' → (v = 0 ∨ v = 1) ∧ ∃ f, J' o = some (.inl (G.2.2.1 2, 1, .inr (.inl f))) ∧ Q (.inl (some (.int (iI 0)))) (aw_up J' o (.inl (G.2.2.1 2, 1, .inr (.inl (vp_updL f 0 (if v = 0 then 0 else 1))))))) (h1 : ∀ J', P1 J' → Q (.inl (some (.int (iI 1)))) J') : aw_W G mW_isA (d + 1) Q 0 [some (.ref x), some (.int (iI a)), some (.int (iI b)), some (.ref o), none] [] J kc ks := by
  obtain ⟨vx, hx⟩ := hx
  first | refine aw_aload_n dW_isA_0 rfl ?_ | refine aw_aload_nQ dW_isA_0 rfl ?_ | refine aw_aload_nN dW_isA_0 rfl ?_
  refine ai_iconst dW_isA_1 ?_
  first | refine aw_aload_n dW_isA_2 rfl ?_ | refine aw_aload_nQ dW_isA_2 rfl ?_ | refine aw_aload_nN dW_isA_2 rfl ?_
  refine aw_iload_n dW_isA_3 rfl ?_
  refine aw_iload_n dW_isA_4 rfl ?_
  refine aw_callX2 (mc' := mc) (ms' := ms) (kc' := kc - mc) (ks' := ks - ms) dW_isA_5 cW_58 hx (Nat.le_of_ble_eq_true rfl) (Nat.le_of_ble_eq_true rfl) (by omega) (by omega) ?_
  refine hc _ (fun v J' hp => ?_) (fun J' hp => ?_)
  · obtain ⟨hv01, f, hJo, hqv⟩ := hv v J' hp
    rcases hv01 with e | e
    · subst e
      refine ai_if_eq (tgt := 15) dW_isA_8 (by decide) (by decide) (fun _ => ?_) (fun z => absurd rfl z)
      refine aw_lconst (v := 0) dW_isA_15 (by decide) ?_
      refine aw_last dW_isA_16 hJo (iI_in (by decide) (by decide) (by decide)) ?_
      refine aw_goto (tgt := 24) dW_isA_17 (by decide) ?_
      refine ai_iconst dW_isA_24 ?_
      refine aw_iret dW_isA_25 rfl ?_
      rw [iI_cl (by decide)]
      exact hqv
    · subst e
      refine ai_if_eq (tgt := 15) dW_isA_8 (by decide) (by decide) (fun z => absurd z (by decide)) (fun _ => ?_)
      refine aw_lconst (v := 1) dW_isA_11 (by decide) ?_
      refine aw_goto (tgt := 16) dW_isA_12 (by decide) ?_
      refine aw_last dW_isA_16 hJo (iI_in (by decide) (by decide) (by decide)) ?_
      refine aw_goto (tgt := 24) dW_isA_17 (by decide) ?_
      refine ai_iconst dW_isA_24 ?_
      refine aw_iret dW_isA_25 rfl ?_
      rw [iI_cl (by decide)]
      exact hqv
  · refine aw_xt [] (0, 17, 20, 53) [] "java/util/NoSuchElementException" rfl (fun _ h => nomatch h) (by decide) (by decide) wT_3_80 (by decide) (fun q => ?_)
    refine aw_astore dW_isA_20 (by decide) rfl ?_
    refine ai_iconst dW_isA_22 ?_
    refine aw_iret dW_isA_23 rfl ?_
    exact h1 J' hp

theorem ww_apply {G : aw_G} {d : Nat} {Q : aw_O → aw_J → Prop} {J : aw_J} {kc ks : Nat} {x o mc ms : Nat} {a : Int} {b : Int} {PV : Int → aw_J → Prop} {P1 : aw_J → Prop} {P2 : aw_J → Prop} {P3 : aw_J → Prop} {P4 : aw_J → Prop} (hkc : mc ≤ kc) (hks : ms ≤ ks) (hx : ∃ vs, J x = some (.inr (8, vs))) (hc : ∀ Q' : aw_O → aw_J → Prop, (∀ v J', PV v J' → Q' (.inl (some (.int (iI v)))) J') → (∀ J', P1 J' → Q' (.inr "java/lang/IllegalArgumentException") J') → (∀ J', P2 J' → Q' (.inr "java/lang/IllegalStateException") J') → (∀ J', P3 J' → Q' (.inr "java/util/NoSuchElementException") J') → (∀ J', P4 J' → Q' (.inr "java/lang/UnsupportedOperationException") J') → aw_W G mT_apply d Q' 0 [some (.ref x), some (.int (iI a)), some (.int (iI b)), none, none, none] [] J mc ms) (hv : ∀ v J', PV v J' → ∃ f, J' o = some (.inl (G.2.2.1 2, 1, .inr (.inl f))) ∧ Q (.inl (some (.int (iI 0)))) (aw_up J' o (.inl (G.2.2.1 2, 1, .inr (.inl (vp_updL f 0 (iI v).toInt64)))))) (h1 : ∀ J', P1 J' → Q (.inl (some (.int (iI 1)))) J') (h2 : ∀ J', P2 J' → Q (.inl (some (.int (iI 2)))) J') (h3 : ∀ J', P3 J' → Q (.inl (some (.int (iI 3)))) J') (h4 : ∀ J', P4 J' → Q (.inl (some (.int (iI 4)))) J') : aw_W G mW_apply (d + 1) Q 0 [some (.ref x), some (.int (iI a)), some (.int (iI b)), some (.ref o), none] [] J kc ks := by
  obtain ⟨vx, hx⟩ := hx
  first | refine aw_aload_n dW_apply_0 rfl ?_ | refine aw_aload_nQ dW_apply_0 rfl ?_ | refine aw_aload_nN dW_apply_0 rfl ?_
  refine ai_iconst dW_apply_1 ?_
  first | refine aw_aload_n dW_apply_2 rfl ?_ | refine aw_aload_nQ dW_apply_2 rfl ?_ | refine aw_aload_nN dW_apply_2 rfl ?_
  refine aw_iload_n dW_apply_3 rfl ?_
  refine aw_iload_n dW_apply_4 rfl ?_
  refine aw_callX2 (mc' := mc) (ms' := ms) (kc' := kc - mc) (ks' := ks - ms) dW_apply_5 cW_62 hx (Nat.le_of_ble_eq_true rfl) (Nat.le_of_ble_eq_true rfl) (by omega) (by omega) ?_
  refine hc _ (fun v J' hp => ?_) (fun J' hp => ?_) (fun J' hp => ?_) (fun J' hp => ?_) (fun J' hp => ?_)
  · obtain ⟨f, hJo, hqv⟩ := hv v J' hp
    refine aw_i2l dW_apply_8 ?_
    refine aw_last dW_apply_9 hJo (iI_in (by decide) (by decide) (by decide)) ?_
    refine aw_goto (tgt := 29) dW_apply_10 (by decide) ?_
    refine ai_iconst dW_apply_29 ?_
    refine aw_iret dW_apply_30 rfl ?_
    rw [iI_cl (by decide)]
    exact hqv
  · refine aw_xt [] (0, 10, 13, 13) [(0, 10, 17, 15), (0, 10, 21, 53), (0, 10, 25, 40)] "java/lang/IllegalArgumentException" rfl (fun _ h => nomatch h) (by decide) (by decide) wT_1_220 (by decide) (fun q => ?_)
    refine aw_astore dW_apply_13 (by decide) rfl ?_
    refine ai_iconst dW_apply_15 ?_
    refine aw_iret dW_apply_16 rfl ?_
    exact h1 J' hp
  · refine aw_xt [(0, 10, 13, 13)] (0, 10, 17, 15) [(0, 10, 21, 53), (0, 10, 25, 40)] "java/lang/IllegalStateException" rfl (List.forall_mem_cons.mpr ⟨⟨by decide, "java/lang/IllegalArgumentException", wT_1_220, by decide⟩, (fun _ h => nomatch h)⟩) (by decide) (by decide) wT_1_221 (by decide) (fun q => ?_)
    refine aw_astore dW_apply_17 (by decide) rfl ?_
    refine ai_iconst dW_apply_19 ?_
    refine aw_iret dW_apply_20 rfl ?_
    exact h2 J' hp
  · refine aw_xt [(0, 10, 13, 13), (0, 10, 17, 15)] (0, 10, 21, 53) [(0, 10, 25, 40)] "java/util/NoSuchElementException" rfl (List.forall_mem_cons.mpr ⟨⟨by decide, "java/lang/IllegalArgumentException", wT_1_220, by decide⟩, (List.forall_mem_cons.mpr ⟨⟨by decide, "java/lang/IllegalStateException", wT_1_221, by decide⟩, (fun _ h => nomatch h)⟩)⟩) (by decide) (by decide) wT_3_80 (by decide) (fun q => ?_)
    refine aw_astore dW_apply_21 (by decide) rfl ?_
    refine ai_iconst dW_apply_23 ?_
    refine aw_iret dW_apply_24 rfl ?_
    exact h3 J' hp
  · refine aw_xt [(0, 10, 13, 13), (0, 10, 17, 15), (0, 10, 21, 53)] (0, 10, 25, 40) [] "java/lang/UnsupportedOperationException" rfl (List.forall_mem_cons.mpr ⟨⟨by decide, "java/lang/IllegalArgumentException", wT_1_220, by decide⟩, (List.forall_mem_cons.mpr ⟨⟨by decide, "java/lang/IllegalStateException", wT_1_221, by decide⟩, (List.forall_mem_cons.mpr ⟨⟨by decide, "java/util/NoSuchElementException", wT_3_80, by decide⟩, (fun _ h => nomatch h)⟩)⟩)⟩) (by decide) (by decide) wT_2_213 (by decide) (fun q => ?_)
    refine aw_astore dW_apply_25 (by decide) rfl ?_
    refine ai_iconst dW_apply_27 ?_
    refine aw_iret dW_apply_28 rfl ?_
    exact h4 J' hp

theorem ww_applied {G : aw_G} {d : Nat} {Q : aw_O → aw_J → Prop} {J : aw_J} {kc ks : Nat} {x o mc ms : Nat} {a : Int} {b : Int} {PV : Int → aw_J → Prop} {P1 : aw_J → Prop} (hkc : mc ≤ kc) (hks : ms ≤ ks) (hx : ∃ vs, J x = some (.inr (8, vs))) (hc : ∀ Q' : aw_O → aw_J → Prop, (∀ v J', PV v J' → Q' (.inl (some (.int (iI v)))) J') → (∀ J', P1 J' → Q' (.inr "java/lang/IllegalArgumentException") J') → aw_W G mT_applied d Q' 0 [some (.ref x), some (.int (iI a)), some (.int (iI b)), none] [] J mc ms) (hv : ∀ v J', PV v J' → ∃ f, J' o = some (.inl (G.2.2.1 2, 1, .inr (.inl f))) ∧ Q (.inl (some (.int (iI 0)))) (aw_up J' o (.inl (G.2.2.1 2, 1, .inr (.inl (vp_updL f 0 (iI v).toInt64)))))) (h1 : ∀ J', P1 J' → Q (.inl (some (.int (iI 1)))) J') : aw_W G mW_applied (d + 1) Q 0 [some (.ref x), some (.int (iI a)), some (.int (iI b)), some (.ref o), none] [] J kc ks := by
  obtain ⟨vx, hx⟩ := hx
  first | refine aw_aload_n dW_applied_0 rfl ?_ | refine aw_aload_nQ dW_applied_0 rfl ?_ | refine aw_aload_nN dW_applied_0 rfl ?_
  refine ai_iconst dW_applied_1 ?_
  first | refine aw_aload_n dW_applied_2 rfl ?_ | refine aw_aload_nQ dW_applied_2 rfl ?_ | refine aw_aload_nN dW_applied_2 rfl ?_
  refine aw_iload_n dW_applied_3 rfl ?_
  refine aw_iload_n dW_applied_4 rfl ?_
  refine aw_callX2 (mc' := mc) (ms' := ms) (kc' := kc - mc) (ks' := ks - ms) dW_applied_5 cW_65 hx (Nat.le_of_ble_eq_true rfl) (Nat.le_of_ble_eq_true rfl) (by omega) (by omega) ?_
  refine hc _ (fun v J' hp => ?_) (fun J' hp => ?_)
  · obtain ⟨f, hJo, hqv⟩ := hv v J' hp
    refine aw_i2l dW_applied_8 ?_
    refine aw_last dW_applied_9 hJo (iI_in (by decide) (by decide) (by decide)) ?_
    refine aw_goto (tgt := 17) dW_applied_10 (by decide) ?_
    refine ai_iconst dW_applied_17 ?_
    refine aw_iret dW_applied_18 rfl ?_
    rw [iI_cl (by decide)]
    exact hqv
  · refine aw_xt [] (0, 10, 13, 13) [] "java/lang/IllegalArgumentException" rfl (fun _ h => nomatch h) (by decide) (by decide) wT_1_220 (by decide) (fun q => ?_)
    refine aw_astore dW_applied_13 (by decide) rfl ?_
    refine ai_iconst dW_applied_15 ?_
    refine aw_iret dW_applied_16 rfl ?_
    exact h1 J' hp

end ST30
