/-! newLoader -/
section ST16
variable {G : aw_G} {d : Nat} {Q : aw_O → aw_J → Prop} {J : aw_J} {kc ks : Nat}
theorem sp_newLoader {x aA aS aL aT aO aN : Nat} {nS nT : Int} {cL : Nat → Option Nat} {f : Int → Int} {pl ca ca' : Nat} {kd l' k' h dc g : Int} {rf rp' rf' : Option Nat} (hkc : 1 ≤ kc) (hks : 8 ≤ ks) (hT : st_T J x aA aS aL aT aO aN nS nT) (hLA : J aL = some (.inl (G.2.2.1 5, 41, .inr (.inr (.inr (.inr cL)))))) (hcl : ∀ l, 1 ≤ l → l ≤ 40 → (cL l.toNat = none ↔ f l = 0)) (hfree : ∃ j, 1 ≤ j ∧ j ≤ 40 ∧ f j = 0) (hP : st_L J pl l' k' rp' ca' rf' h dc g) (hq : ∀ l q, 1 ≤ l → l ≤ 40 → (∀ j, 1 ≤ j → j < l → ¬ f j = 0) → f l = 0 → J q = none → Q (.inl (some (.ref q))) (aw_up (aw_up (aw_up J q (.inr (4, [.int (iI l), .int (iI kd), .ref pl, .ref ca, va_rf rf, .int (iI 0), .int (iI 0), .int (iI 0)]))) aL (.inl (G.2.2.1 5, 41, .inr (.inr (.inr (.inr (va_up cL l.toNat (some q)))))))) pl (.inr (4, [.int (iI l'), .int (iI k'), va_rf rp', .ref ca', va_rf rf', .int (iI (h + 1)), .int (iI dc), .int (iI g)])))) : aw_W G mT_newLoader (d + 1) Q 0 [some (.ref x), some (.int (iI kd)), some (.ref pl), some (.ref ca), some (va_rf rf), none, none] [] J kc ks := by
  cases rf with
  | none =>
    first | refine aw_aload_n dT_newLoader_0 rfl ?_ | refine aw_aload_nQ dT_newLoader_0 rfl ?_ | refine aw_aload_nN dT_newLoader_0 rfl ?_
    refine aw_callV0 (mc' := 0) (ms' := 0) (kc' := kc) (ks' := ks) dT_newLoader_1 cT_312 hT (Nat.le_of_ble_eq_true rfl) (Nat.le_of_ble_eq_true rfl) (by omega) (by omega) rfl ?_
    refine sp_least hT hLA hcl hfree (fun l hl1 hl2 hl3 hl4 => ?_)
    refine aw_istore dT_newLoader_4 (by decide) rfl ?_
    refine aw_new (kc' := kc - 1) (ks' := ks - 8) dT_newLoader_6 nT_21 (by omega) (by omega) (fun q hq0 => ?_)
    have uT : ∀ e, aw_up J q e x = _ := fun e => (aw_up_n (aw_nf hT hq0)).trans hT
    have uA : ∀ e, aw_up J q e aL = _ := fun e => (aw_up_n (aw_nf hLA hq0)).trans hLA
    have uP : ∀ e, aw_up J q e pl = _ := fun e => (aw_up_n (aw_nf hP hq0)).trans hP
    refine aw_dup dT_newLoader_9 rfl ?_
    refine aw_iload dT_newLoader_10 rfl ?_
    refine aw_iload_n dT_newLoader_12 rfl ?_
    refine aw_aload_n dT_newLoader_13 rfl ?_
    refine aw_aload_n dT_newLoader_14 rfl ?_
    first | refine aw_aload dT_newLoader_15 rfl ?_ | refine aw_aloadN dT_newLoader_15 rfl ?_
    refine aw_callIN5 (mc' := 0) (ms' := 0) (kc' := (kc - 1)) (ks' := (ks - 8)) dT_newLoader_17 cT_41 (Nat.le_of_ble_eq_true rfl) (Nat.le_of_ble_eq_true rfl) (by omega) (by omega) ?_
    refine sp_Linit (rp := some pl) (rf := none) aw_up_s ?_
    rw [aw_uu]
    first | refine aw_astore dT_newLoader_20 (by decide) rfl ?_ | refine aw_astoreQ dT_newLoader_20 (by decide) rfl ?_ | refine aw_astoreN dT_newLoader_20 (by decide) rfl ?_
    first | refine aw_aload_n dT_newLoader_22 rfl ?_ | refine aw_aload_nQ dT_newLoader_22 rfl ?_ | refine aw_aload_nN dT_newLoader_22 rfl ?_
    refine aw_get dT_newLoader_23 fT_23 (uT _) rfl ?_
    refine aw_iload dT_newLoader_26 rfl ?_
    first | refine aw_aload dT_newLoader_28 rfl ?_ | refine aw_aloadQ dT_newLoader_28 rfl ?_ | refine aw_aloadN dT_newLoader_28 rfl ?_
    refine aw_aast dT_newLoader_30 rfl rfl (uA _) aw_up_s (iI_in (by omega) (by omega) (by omega)) ?_
    rw [iI_cl (by omega)]
    have pa : pl ≠ aL := aw_ne hP hLA (fun h => by cases h)
    first | refine aw_aload_n dT_newLoader_31 rfl ?_ | refine aw_aload_nQ dT_newLoader_31 rfl ?_ | refine aw_aload_nN dT_newLoader_31 rfl ?_
    refine aw_dup dT_newLoader_32 rfl ?_
    refine aw_get dT_newLoader_33 fT_70 ((aw_up_n pa).trans (uP _)) rfl ?_
    refine ai_iconst dT_newLoader_36 ?_
    refine ai_iadd dT_newLoader_37 ?_
    refine aw_put dT_newLoader_38 sT_70 ((aw_up_n pa).trans (uP _)) rfl rfl (Nat.le_of_ble_eq_true rfl) ?_
    first | refine aw_aload dT_newLoader_41 rfl ?_ | refine aw_aloadQ dT_newLoader_41 rfl ?_ | refine aw_aloadN dT_newLoader_41 rfl ?_
    refine aw_aret dT_newLoader_43 rfl (by first | exact Or.inr ⟨_, rfl⟩ | exact Or.inl rfl | exact aw_rf_or _) ?_
    exact hq l q hl1 hl2 hl3 hl4 hq0
  | some fa =>
    first | refine aw_aload_n dT_newLoader_0 rfl ?_ | refine aw_aload_nQ dT_newLoader_0 rfl ?_ | refine aw_aload_nN dT_newLoader_0 rfl ?_
    refine aw_callV0 (mc' := 0) (ms' := 0) (kc' := kc) (ks' := ks) dT_newLoader_1 cT_312 hT (Nat.le_of_ble_eq_true rfl) (Nat.le_of_ble_eq_true rfl) (by omega) (by omega) rfl ?_
    refine sp_least hT hLA hcl hfree (fun l hl1 hl2 hl3 hl4 => ?_)
    refine aw_istore dT_newLoader_4 (by decide) rfl ?_
    refine aw_new (kc' := kc - 1) (ks' := ks - 8) dT_newLoader_6 nT_21 (by omega) (by omega) (fun q hq0 => ?_)
    have uT : ∀ e, aw_up J q e x = _ := fun e => (aw_up_n (aw_nf hT hq0)).trans hT
    have uA : ∀ e, aw_up J q e aL = _ := fun e => (aw_up_n (aw_nf hLA hq0)).trans hLA
    have uP : ∀ e, aw_up J q e pl = _ := fun e => (aw_up_n (aw_nf hP hq0)).trans hP
    refine aw_dup dT_newLoader_9 rfl ?_
    refine aw_iload dT_newLoader_10 rfl ?_
    refine aw_iload_n dT_newLoader_12 rfl ?_
    refine aw_aload_n dT_newLoader_13 rfl ?_
    refine aw_aload_n dT_newLoader_14 rfl ?_
    first | refine aw_aload dT_newLoader_15 rfl ?_ | refine aw_aloadN dT_newLoader_15 rfl ?_
    refine aw_callIN5 (mc' := 0) (ms' := 0) (kc' := (kc - 1)) (ks' := (ks - 8)) dT_newLoader_17 cT_41 (Nat.le_of_ble_eq_true rfl) (Nat.le_of_ble_eq_true rfl) (by omega) (by omega) ?_
    refine sp_Linit (rp := some pl) (rf := some fa) aw_up_s ?_
    rw [aw_uu]
    first | refine aw_astore dT_newLoader_20 (by decide) rfl ?_ | refine aw_astoreQ dT_newLoader_20 (by decide) rfl ?_ | refine aw_astoreN dT_newLoader_20 (by decide) rfl ?_
    first | refine aw_aload_n dT_newLoader_22 rfl ?_ | refine aw_aload_nQ dT_newLoader_22 rfl ?_ | refine aw_aload_nN dT_newLoader_22 rfl ?_
    refine aw_get dT_newLoader_23 fT_23 (uT _) rfl ?_
    refine aw_iload dT_newLoader_26 rfl ?_
    first | refine aw_aload dT_newLoader_28 rfl ?_ | refine aw_aloadQ dT_newLoader_28 rfl ?_ | refine aw_aloadN dT_newLoader_28 rfl ?_
    refine aw_aast dT_newLoader_30 rfl rfl (uA _) aw_up_s (iI_in (by omega) (by omega) (by omega)) ?_
    rw [iI_cl (by omega)]
    have pa : pl ≠ aL := aw_ne hP hLA (fun h => by cases h)
    first | refine aw_aload_n dT_newLoader_31 rfl ?_ | refine aw_aload_nQ dT_newLoader_31 rfl ?_ | refine aw_aload_nN dT_newLoader_31 rfl ?_
    refine aw_dup dT_newLoader_32 rfl ?_
    refine aw_get dT_newLoader_33 fT_70 ((aw_up_n pa).trans (uP _)) rfl ?_
    refine ai_iconst dT_newLoader_36 ?_
    refine ai_iadd dT_newLoader_37 ?_
    refine aw_put dT_newLoader_38 sT_70 ((aw_up_n pa).trans (uP _)) rfl rfl (Nat.le_of_ble_eq_true rfl) ?_
    first | refine aw_aload dT_newLoader_41 rfl ?_ | refine aw_aloadQ dT_newLoader_41 rfl ?_ | refine aw_aloadN dT_newLoader_41 rfl ?_
    refine aw_aret dT_newLoader_43 rfl (by first | exact Or.inr ⟨_, rfl⟩ | exact Or.inl rfl | exact aw_rf_or _) ?_
    exact hq l q hl1 hl2 hl3 hl4 hq0
end ST16
