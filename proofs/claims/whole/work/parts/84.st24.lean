/-! wantedDefining, wantedFiltering -/
section ST24
theorem sp_wantD_l {G : aw_G} {d : Nat} {Q : aw_O → aw_J → Prop} {J : aw_J} {kc ks : Nat} {x aA aS aL aT aO aN : Nat} {nS nT : Int} {pl q : Nat} {x1 : Option Value} {cL : Nat → Option Nat} {La : Int → Nat} {RP : Int → Option Nat} {M : Int → Prop} {PN : Nat → aw_J → Prop} (hkc : 1 ≤ kc) (hks : 8 ≤ ks) (hT : st_T J x aA aS aL aT aO aN nS nT) (hLA : J aL = some (.inl (G.2.2.1 5, 41, .inr (.inr (.inr (.inr cL)))))) (hH : ∀ i, 1 ≤ i → i ≤ 40 → cL i.toNat = none ∨ (cL i.toNat = some (La i) ∧ (∃ l k ca rf h dc g, st_L J (La i) l k (RP i) ca rf h dc g) ∧ (RP i = some pl → (∀ Q' : aw_O → aw_J → Prop, (M i → Q' (.inl (some (.int (iI 1)))) J) → (¬ M i → Q' (.inl (some (.int (iI 0)))) J) → aw_W G mL_hasPathLike (d + 1 + 1 + 1) Q' 0 [some (.ref (La i)), some (.ref q), none] [] J 0 0)))) (hold : ∀ i, 1 ≤ i → i ≤ 40 → (∀ j, 1 ≤ j → j < i → ¬ (¬ cL j.toNat = none ∧ RP j = some pl ∧ M j)) → (¬ cL i.toNat = none ∧ RP i = some pl ∧ M i) → Q (.inl (some (.ref (La i)))) J) (hnew : (∀ j, 1 ≤ j → j ≤ 40 → ¬ (¬ cL j.toNat = none ∧ RP j = some pl ∧ M j)) → (∀ Q' : aw_O → aw_J → Prop, (∀ v J', PN v J' → Q' (.inl (some (.ref v))) J') → aw_W G mT_newLoader (d + 1 + 1 + 1) Q' 0 [some (.ref x), some (.int (iI 1)), some (.ref pl), some (.ref q), some .null, none, none] [] J 1 8)) (hN : ∀ v J', PN v J' → Q (.inl (some (.ref v))) J') : ∀ i : Int, i ≤ 41 → 1 ≤ i → ∀ x5 : Option Value, (∀ j, 1 ≤ j → j < i → ¬ (¬ cL j.toNat = none ∧ RP j = some pl ∧ M j)) → aw_W G mT_wantedDefining (d + 1 + 1 + 1 + 1) Q 18 [some (.ref x), x1, some (.ref pl), some (.ref q), some (.int (iI i)), x5] [] J kc ks := by
  refine il_up 41 (fun i hi ih h1 x5 hj => ?_)
  refine aw_iload dT_wantedDefining_18 rfl ?_
  refine ai_bipush dT_wantedDefining_20 (by decide +kernel) ?_
  refine ai_icmp_ge (tgt := 66) dT_wantedDefining_22 (by decide) (by omega) (by omega) (fun hb22 => ?_) (fun hb22 => ?_)
  · have e9 := 0
    first | refine aw_aload_n dT_wantedDefining_66 rfl ?_ | refine aw_aload_nQ dT_wantedDefining_66 rfl ?_ | refine aw_aload_nN dT_wantedDefining_66 rfl ?_
    refine ai_iconst dT_wantedDefining_67 ?_
    first | refine aw_aload_n dT_wantedDefining_68 rfl ?_ | refine aw_aload_nQ dT_wantedDefining_68 rfl ?_ | refine aw_aload_nN dT_wantedDefining_68 rfl ?_
    first | refine aw_aload_n dT_wantedDefining_69 rfl ?_ | refine aw_aload_nQ dT_wantedDefining_69 rfl ?_ | refine aw_aload_nN dT_wantedDefining_69 rfl ?_
    refine aw_null dT_wantedDefining_70 ?_
    refine aw_callV4 (mc' := 1) (ms' := 8) (kc' := (kc - 1)) (ks' := (ks - 8)) dT_wantedDefining_71 cT_297 hT (Nat.le_of_ble_eq_true rfl) (Nat.le_of_ble_eq_true rfl) (by omega) (by omega) rfl ?_
    refine hnew (fun j q1 q2 => hj j q1 (by omega)) _ (fun v J2 hv => ?_)
    refine aw_aret dT_wantedDefining_74 rfl (by first | exact Or.inr ⟨_, rfl⟩ | exact Or.inl rfl | exact aw_rf_or _) ?_
    exact hN v J2 hv
  · rcases hH i h1 (by omega) with hci | ⟨hcs, ⟨l, k, ca, rf, h, dc, g, hst⟩, hpl⟩
    · have e9 := 0
      first | refine aw_aload_n dT_wantedDefining_25 rfl ?_ | refine aw_aload_nQ dT_wantedDefining_25 rfl ?_ | refine aw_aload_nN dT_wantedDefining_25 rfl ?_
      refine aw_get dT_wantedDefining_26 fT_23 hT rfl ?_
      refine aw_iload dT_wantedDefining_29 rfl ?_
      refine aw_aald dT_wantedDefining_31 rfl hLA (iI_in (by omega) (by omega) (by omega)) ?_
      rw [iI_cl (by omega), hci]
      refine aw_astoreN dT_wantedDefining_32 (by decide) rfl ?_
      refine aw_aloadN dT_wantedDefining_34 rfl ?_
      refine aw_ifnull (tgt := 60) (r := none) dT_wantedDefining_36 (by decide) (fun _ => ?_) (fun hb36 => absurd hb36 (by simp))
      refine ai_iinc dT_wantedDefining_60 rfl (by decide) rfl ?_
      refine aw_goto (tgt := 18) dT_wantedDefining_63 (by decide) ?_
      refine ih (by omega) (by omega) _ (fun j q1 q2 => ?_)
      by_cases e : j = i
      · subst e
        exact fun z => z.1 hci
      · exact hj j q1 (by omega)
    · have e9 := 0
      first | refine aw_aload_n dT_wantedDefining_25 rfl ?_ | refine aw_aload_nQ dT_wantedDefining_25 rfl ?_ | refine aw_aload_nN dT_wantedDefining_25 rfl ?_
      refine aw_get dT_wantedDefining_26 fT_23 hT rfl ?_
      refine aw_iload dT_wantedDefining_29 rfl ?_
      refine aw_aald dT_wantedDefining_31 rfl hLA (iI_in (by omega) (by omega) (by omega)) ?_
      rw [iI_cl (by omega), hcs]
      refine aw_astore dT_wantedDefining_32 (by decide) rfl ?_
      refine aw_aload dT_wantedDefining_34 rfl ?_
      refine aw_ifnull (tgt := 60) (r := some (La i)) dT_wantedDefining_36 (by decide) (fun hb36 => absurd hb36 (by simp)) (fun _ => ?_)
      first | refine aw_aload dT_wantedDefining_39 rfl ?_ | refine aw_aloadQ dT_wantedDefining_39 rfl ?_ | refine aw_aloadN dT_wantedDefining_39 rfl ?_
      refine aw_get dT_wantedDefining_41 fT_210 hst rfl ?_
      first | refine aw_aload_n dT_wantedDefining_44 rfl ?_ | refine aw_aload_nQ dT_wantedDefining_44 rfl ?_ | refine aw_aload_nN dT_wantedDefining_44 rfl ?_
      refine aw_acmp_ne (tgt := 60) (x := RP i) (y := some pl) dT_wantedDefining_45 (by decide) (fun hb45 => ?_) (fun hb45 => ?_)
      · refine ai_iinc dT_wantedDefining_60 rfl (by decide) rfl ?_
        refine aw_goto (tgt := 18) dT_wantedDefining_63 (by decide) ?_
        refine ih (by omega) (by omega) _ (fun j q1 q2 => ?_)
        by_cases e : j = i
        · subst e
          first
            | exact fun z => hb45 z.2.1
            | exact fun z => hm z.2.2
        · exact hj j q1 (by omega)
      · first | refine aw_aload dT_wantedDefining_48 rfl ?_ | refine aw_aloadQ dT_wantedDefining_48 rfl ?_ | refine aw_aloadN dT_wantedDefining_48 rfl ?_
        first | refine aw_aload_n dT_wantedDefining_50 rfl ?_ | refine aw_aload_nQ dT_wantedDefining_50 rfl ?_ | refine aw_aload_nN dT_wantedDefining_50 rfl ?_
        refine aw_callVN1 (mc' := 0) (ms' := 0) (kc' := kc) (ks' := ks) dT_wantedDefining_51 cT_293 hst (Nat.le_of_ble_eq_true rfl) (Nat.le_of_ble_eq_true rfl) (by omega) (by omega) ?_
        refine hpl hb45 _ (fun hm => ?_) (fun hm => ?_)
        · refine ai_if_eq (tgt := 60) dT_wantedDefining_54 (by decide) (by omega) (fun hb54 => absurd hb54 (by decide)) (fun _ => ?_)
          first | refine aw_aload dT_wantedDefining_57 rfl ?_ | refine aw_aloadQ dT_wantedDefining_57 rfl ?_ | refine aw_aloadN dT_wantedDefining_57 rfl ?_
          refine aw_aret dT_wantedDefining_59 rfl (by first | exact Or.inr ⟨_, rfl⟩ | exact Or.inl rfl | exact aw_rf_or _) ?_
          exact hold i h1 (by omega) hj ⟨by rw [hcs]; exact fun e => (by cases e), hb45, hm⟩
        · refine ai_if_eq (tgt := 60) dT_wantedDefining_54 (by decide) (by omega) (fun _ => ?_) (fun hb54 => absurd hb54 (by decide))
          refine ai_iinc dT_wantedDefining_60 rfl (by decide) rfl ?_
          refine aw_goto (tgt := 18) dT_wantedDefining_63 (by decide) ?_
          refine ih (by omega) (by omega) _ (fun j q1 q2 => ?_)
          by_cases e : j = i
          · subst e
            first
              | exact fun z => hb45 z.2.1
              | exact fun z => hm z.2.2
          · exact hj j q1 (by omega)
theorem sp_wantD {G : aw_G} {d : Nat} {Q : aw_O → aw_J → Prop} {J : aw_J} {kc ks : Nat} {x aA aS aL aT aO aN : Nat} {nS nT : Int} {pp pa pl : Nat} {n : Int} {P : Int → Int} {cL : Nat → Option Nat} {La : Int → Nat} {RP : Int → Option Nat} {M : Int → Prop} {PC PN : Nat → aw_J → Prop} (hkc : 14 ≤ kc) (hks : 76 ≤ ks) (hT : st_T J x aA aS aL aT aO aN nS nT) (hP : st_P G J pp pa n P) (h0 : n = 0 → Q (.inl (some (.ref pl))) J) (hc : ¬ n = 0 → (∀ Q' : aw_O → aw_J → Prop, (∀ v J', PC v J' → Q' (.inl (some (.ref v))) J') → aw_W G mT_contentsOf (d + 1 + 1 + 1) Q' 0 [some (.ref x), some (.ref pp), none, none] [] J 13 68)) (hH : ∀ q H, PC q H → st_T H x aA aS aL aT aO aN nS nT ∧ H aL = some (.inl (G.2.2.1 5, 41, .inr (.inr (.inr (.inr cL))))) ∧ ∀ i, 1 ≤ i → i ≤ 40 → cL i.toNat = none ∨ (cL i.toNat = some (La i) ∧ (∃ l k ca rf h dc g, st_L H (La i) l k (RP i) ca rf h dc g) ∧ (RP i = some pl → (∀ Q' : aw_O → aw_J → Prop, (M i → Q' (.inl (some (.int (iI 1)))) H) → (¬ M i → Q' (.inl (some (.int (iI 0)))) H) → aw_W G mL_hasPathLike (d + 1 + 1 + 1) Q' 0 [some (.ref (La i)), some (.ref q), none] [] H 0 0)))) (hold : ∀ q H i, PC q H → 1 ≤ i → i ≤ 40 → (∀ j, 1 ≤ j → j < i → ¬ (¬ cL j.toNat = none ∧ RP j = some pl ∧ M j)) → (¬ cL i.toNat = none ∧ RP i = some pl ∧ M i) → Q (.inl (some (.ref (La i)))) H) (hnew : ∀ q H, PC q H → (∀ j, 1 ≤ j → j ≤ 40 → ¬ (¬ cL j.toNat = none ∧ RP j = some pl ∧ M j)) → (∀ Q' : aw_O → aw_J → Prop, (∀ v J', PN v J' → Q' (.inl (some (.ref v))) J') → aw_W G mT_newLoader (d + 1 + 1 + 1) Q' 0 [some (.ref x), some (.int (iI 1)), some (.ref pl), some (.ref q), some .null, none, none] [] H 1 8)) (hN : ∀ v J', PN v J' → Q (.inl (some (.ref v))) J') : aw_W G mT_wantedDefining (d + 1 + 1 + 1 + 1) Q 0 [some (.ref x), some (.ref pp), some (.ref pl), none, none, none] [] J kc ks := by
  first | refine aw_aload_n dT_wantedDefining_0 rfl ?_ | refine aw_aload_nQ dT_wantedDefining_0 rfl ?_ | refine aw_aload_nN dT_wantedDefining_0 rfl ?_
  refine aw_get dT_wantedDefining_1 fT_286 hP.1 rfl ?_
  refine ai_if_ne (tgt := 9) dT_wantedDefining_4 (by decide) (by have := hP.2.2.1; omega) (fun hb4 => ?_) (fun hb4 => ?_)
  · first | refine aw_aload_n dT_wantedDefining_9 rfl ?_ | refine aw_aload_nQ dT_wantedDefining_9 rfl ?_ | refine aw_aload_nN dT_wantedDefining_9 rfl ?_
    first | refine aw_aload_n dT_wantedDefining_10 rfl ?_ | refine aw_aload_nQ dT_wantedDefining_10 rfl ?_ | refine aw_aload_nN dT_wantedDefining_10 rfl ?_
    refine aw_callV1 (mc' := 13) (ms' := 68) (kc' := (kc - 13)) (ks' := (ks - 68)) dT_wantedDefining_11 cT_289 hT (Nat.le_of_ble_eq_true rfl) (Nat.le_of_ble_eq_true rfl) (by omega) (by omega) rfl ?_
    refine hc hb4 _ (fun q H hq => ?_)
    obtain ⟨hT2, hL2, hH2⟩ := hH q H hq
    refine aw_astore_n dT_wantedDefining_14 (by decide) rfl ?_
    refine ai_iconst dT_wantedDefining_15 ?_
    refine aw_istore dT_wantedDefining_16 (by decide) rfl ?_
    exact sp_wantD_l (by omega) (by omega) hT2 hL2 hH2 (fun i => hold q H i hq) (hnew q H hq) hN 1 (by decide) (by decide) _ (fun j q1 q2 => absurd q2 (by omega))
  · refine aw_aload_n dT_wantedDefining_7 rfl ?_
    refine aw_aret dT_wantedDefining_8 rfl (by first | exact Or.inr ⟨_, rfl⟩ | exact Or.inl rfl | exact aw_rf_or _) ?_
    exact h0 hb4

theorem sp_wantF_l {G : aw_G} {d : Nat} {Q : aw_O → aw_J → Prop} {J : aw_J} {kc ks : Nat} {x aA aS aL aT aO aN : Nat} {nS nT : Int} {pl fa : Nat} {cL : Nat → Option Nat} {La : Int → Nat} {RP RF : Int → Option Nat} {M : Int → Prop} {PN : Nat → aw_J → Prop} (hkc : 2 ≤ kc) (hks : 8 ≤ ks) (hT : st_T J x aA aS aL aT aO aN nS nT) (hLA : J aL = some (.inl (G.2.2.1 5, 41, .inr (.inr (.inr (.inr cL)))))) (hff : ∃ vs, J fa = some (.inr (3, vs))) (hH : ∀ i, 1 ≤ i → i ≤ 40 → cL i.toNat = none ∨ (cL i.toNat = some (La i) ∧ (∃ l k ca h dc g, st_L J (La i) l k (RP i) ca (RF i) h dc g) ∧ (RP i = some pl → (∀ Q' : aw_O → aw_J → Prop, (M i → Q' (.inl (some (.int (iI 1)))) J) → (¬ M i → Q' (.inl (some (.int (iI 0)))) J) → aw_W G mF_isSame (d + 1 + 1 + 1) Q' 0 [some (.ref fa), some (va_rf (RF i))] [] J 0 0)))) (hold : ∀ i, 1 ≤ i → i ≤ 40 → (∀ j, 1 ≤ j → j < i → ¬ (¬ cL j.toNat = none ∧ RP j = some pl ∧ M j)) → (¬ cL i.toNat = none ∧ RP i = some pl ∧ M i) → Q (.inl (some (.ref (La i)))) J) (hnew : (∀ j, 1 ≤ j → j ≤ 40 → ¬ (¬ cL j.toNat = none ∧ RP j = some pl ∧ M j)) → ∀ q, J q = none → (∀ Q' : aw_O → aw_J → Prop, (∀ v J', PN v J' → Q' (.inl (some (.ref v))) J') → aw_W G mT_newLoader (d + 1 + 1 + 1) Q' 0 [some (.ref x), some (.int (iI 2)), some (.ref pl), some (.ref q), some (.ref fa), none, none] [] (aw_up J q (.inl (G.2.2.1 3, 0, .inr (.inr (.inr (.inr (fun _ => none))))))) 1 8)) (hN : ∀ v J', PN v J' → Q (.inl (some (.ref v))) J') : ∀ i : Int, i ≤ 41 → 1 ≤ i → ∀ x4 : Option Value, (∀ j, 1 ≤ j → j < i → ¬ (¬ cL j.toNat = none ∧ RP j = some pl ∧ M j)) → aw_W G mT_wantedFiltering (d + 1 + 1 + 1 + 1) Q 8 [some (.ref x), some (.ref fa), some (.ref pl), some (.int (iI i)), x4] [] J kc ks := by
  obtain ⟨vf, hf0⟩ := hff
  refine il_up 41 (fun i hi ih h1 x4 hj => ?_)
  refine aw_iload_n dT_wantedFiltering_8 rfl ?_
  refine ai_bipush dT_wantedFiltering_9 (by decide +kernel) ?_
  refine ai_icmp_ge (tgt := 57) dT_wantedFiltering_11 (by decide) (by omega) (by omega) (fun hb22 => ?_) (fun hb22 => ?_)
  · have e9 := 0
    first | refine aw_aload_n dT_wantedFiltering_57 rfl ?_ | refine aw_aload_nQ dT_wantedFiltering_57 rfl ?_ | refine aw_aload_nN dT_wantedFiltering_57 rfl ?_
    refine ai_iconst dT_wantedFiltering_58 ?_
    first | refine aw_aload_n dT_wantedFiltering_59 rfl ?_ | refine aw_aload_nQ dT_wantedFiltering_59 rfl ?_ | refine aw_aload_nN dT_wantedFiltering_59 rfl ?_
    refine ai_iconst dT_wantedFiltering_60 ?_
    refine aw_newQ (t := 3) (N := 0) (kc' := kc - 1) (ks' := ks) dT_wantedFiltering_61 rfl wT_1_30 (by decide) (by decide) (by decide) (by decide) (by omega) (by omega) (fun q hq0 => ?_)
    refine aw_aload_n dT_wantedFiltering_64 rfl ?_
    refine aw_callV4 (mc' := 1) (ms' := 8) (kc' := (kc - 2)) (ks' := (ks - 8)) dT_wantedFiltering_65 cT_297 ((aw_up_n (aw_nf hT hq0)).trans hT) (Nat.le_of_ble_eq_true rfl) (Nat.le_of_ble_eq_true rfl) (by omega) (by omega) rfl ?_
    refine hnew (fun j q1 q2 => hj j q1 (by omega)) q hq0 _ (fun v J2 hv => ?_)
    refine aw_aret dT_wantedFiltering_68 rfl (by first | exact Or.inr ⟨_, rfl⟩ | exact Or.inl rfl | exact aw_rf_or _) ?_
    exact hN v J2 hv
  · rcases hH i h1 (by omega) with hci | ⟨hcs, ⟨l, k, ca, h, dc, g, hst⟩, hpl⟩
    · have e9 := 0
      first | refine aw_aload_n dT_wantedFiltering_14 rfl ?_ | refine aw_aload_nQ dT_wantedFiltering_14 rfl ?_ | refine aw_aload_nN dT_wantedFiltering_14 rfl ?_
      refine aw_get dT_wantedFiltering_15 fT_23 hT rfl ?_
      refine aw_iload_n dT_wantedFiltering_18 rfl ?_
      refine aw_aald dT_wantedFiltering_19 rfl hLA (iI_in (by omega) (by omega) (by omega)) ?_
      rw [iI_cl (by omega), hci]
      refine aw_astoreN dT_wantedFiltering_20 (by decide) rfl ?_
      refine aw_aloadN dT_wantedFiltering_22 rfl ?_
      refine aw_ifnull (tgt := 51) (r := none) dT_wantedFiltering_24 (by decide) (fun _ => ?_) (fun hb24 => absurd hb24 (by simp))
      refine ai_iinc dT_wantedFiltering_51 rfl (by decide) rfl ?_
      refine aw_goto (tgt := 8) dT_wantedFiltering_54 (by decide) ?_
      refine ih (by omega) (by omega) _ (fun j q1 q2 => ?_)
      by_cases e : j = i
      · subst e
        exact fun z => z.1 hci
      · exact hj j q1 (by omega)
    · generalize hR : RF i = R at hst hpl
      cases R with
      | none =>
        first | refine aw_aload_n dT_wantedFiltering_14 rfl ?_ | refine aw_aload_nQ dT_wantedFiltering_14 rfl ?_ | refine aw_aload_nN dT_wantedFiltering_14 rfl ?_
        refine aw_get dT_wantedFiltering_15 fT_23 hT rfl ?_
        refine aw_iload_n dT_wantedFiltering_18 rfl ?_
        refine aw_aald dT_wantedFiltering_19 rfl hLA (iI_in (by omega) (by omega) (by omega)) ?_
        rw [iI_cl (by omega), hcs]
        refine aw_astore dT_wantedFiltering_20 (by decide) rfl ?_
        refine aw_aload dT_wantedFiltering_22 rfl ?_
        refine aw_ifnull (tgt := 51) (r := some (La i)) dT_wantedFiltering_24 (by decide) (fun hb24 => absurd hb24 (by simp)) (fun _ => ?_)
        first | refine aw_aload dT_wantedFiltering_27 rfl ?_ | refine aw_aloadQ dT_wantedFiltering_27 rfl ?_ | refine aw_aloadN dT_wantedFiltering_27 rfl ?_
        refine aw_get dT_wantedFiltering_29 fT_210 hst rfl ?_
        first | refine aw_aload_n dT_wantedFiltering_32 rfl ?_ | refine aw_aload_nQ dT_wantedFiltering_32 rfl ?_ | refine aw_aload_nN dT_wantedFiltering_32 rfl ?_
        refine aw_acmp_ne (tgt := 51) (x := RP i) (y := some pl) dT_wantedFiltering_33 (by decide) (fun hb33 => ?_) (fun hb33 => ?_)
        · refine ai_iinc dT_wantedFiltering_51 rfl (by decide) rfl ?_
          refine aw_goto (tgt := 8) dT_wantedFiltering_54 (by decide) ?_
          refine ih (by omega) (by omega) _ (fun j q1 q2 => ?_)
          by_cases e : j = i
          · subst e
            first
              | exact fun z => hb33 z.2.1
              | exact fun z => hm z.2.2
          · exact hj j q1 (by omega)
        · refine aw_aload_n dT_wantedFiltering_36 rfl ?_
          first | refine aw_aload dT_wantedFiltering_37 rfl ?_ | refine aw_aloadQ dT_wantedFiltering_37 rfl ?_ | refine aw_aloadN dT_wantedFiltering_37 rfl ?_
          refine aw_get dT_wantedFiltering_39 fT_301 hst rfl ?_
          refine aw_callVN1 (mc' := 0) (ms' := 0) (kc' := kc) (ks' := ks) dT_wantedFiltering_42 cT_302 hf0 (Nat.le_of_ble_eq_true rfl) (Nat.le_of_ble_eq_true rfl) (by omega) (by omega) ?_
          refine hpl hb33 _ (fun hm => ?_) (fun hm => ?_)
          · refine ai_if_eq (tgt := 51) dT_wantedFiltering_45 (by decide) (by omega) (fun hb45 => absurd hb45 (by decide)) (fun _ => ?_)
            first | refine aw_aload dT_wantedFiltering_48 rfl ?_ | refine aw_aloadQ dT_wantedFiltering_48 rfl ?_ | refine aw_aloadN dT_wantedFiltering_48 rfl ?_
            refine aw_aret dT_wantedFiltering_50 rfl (by first | exact Or.inr ⟨_, rfl⟩ | exact Or.inl rfl | exact aw_rf_or _) ?_
            exact hold i h1 (by omega) hj ⟨by rw [hcs]; exact fun e => (by cases e), hb33, hm⟩
          · refine ai_if_eq (tgt := 51) dT_wantedFiltering_45 (by decide) (by omega) (fun _ => ?_) (fun hb45 => absurd hb45 (by decide))
            refine ai_iinc dT_wantedFiltering_51 rfl (by decide) rfl ?_
            refine aw_goto (tgt := 8) dT_wantedFiltering_54 (by decide) ?_
            refine ih (by omega) (by omega) _ (fun j q1 q2 => ?_)
            by_cases e : j = i
            · subst e
              first
                | exact fun z => hb33 z.2.1
                | exact fun z => hm z.2.2
            · exact hj j q1 (by omega)
      | some fb =>
        first | refine aw_aload_n dT_wantedFiltering_14 rfl ?_ | refine aw_aload_nQ dT_wantedFiltering_14 rfl ?_ | refine aw_aload_nN dT_wantedFiltering_14 rfl ?_
        refine aw_get dT_wantedFiltering_15 fT_23 hT rfl ?_
        refine aw_iload_n dT_wantedFiltering_18 rfl ?_
        refine aw_aald dT_wantedFiltering_19 rfl hLA (iI_in (by omega) (by omega) (by omega)) ?_
        rw [iI_cl (by omega), hcs]
        refine aw_astore dT_wantedFiltering_20 (by decide) rfl ?_
        refine aw_aload dT_wantedFiltering_22 rfl ?_
        refine aw_ifnull (tgt := 51) (r := some (La i)) dT_wantedFiltering_24 (by decide) (fun hb24 => absurd hb24 (by simp)) (fun _ => ?_)
        first | refine aw_aload dT_wantedFiltering_27 rfl ?_ | refine aw_aloadQ dT_wantedFiltering_27 rfl ?_ | refine aw_aloadN dT_wantedFiltering_27 rfl ?_
        refine aw_get dT_wantedFiltering_29 fT_210 hst rfl ?_
        first | refine aw_aload_n dT_wantedFiltering_32 rfl ?_ | refine aw_aload_nQ dT_wantedFiltering_32 rfl ?_ | refine aw_aload_nN dT_wantedFiltering_32 rfl ?_
        refine aw_acmp_ne (tgt := 51) (x := RP i) (y := some pl) dT_wantedFiltering_33 (by decide) (fun hb33 => ?_) (fun hb33 => ?_)
        · refine ai_iinc dT_wantedFiltering_51 rfl (by decide) rfl ?_
          refine aw_goto (tgt := 8) dT_wantedFiltering_54 (by decide) ?_
          refine ih (by omega) (by omega) _ (fun j q1 q2 => ?_)
          by_cases e : j = i
          · subst e
            first
              | exact fun z => hb33 z.2.1
              | exact fun z => hm z.2.2
          · exact hj j q1 (by omega)
        · refine aw_aload_n dT_wantedFiltering_36 rfl ?_
          first | refine aw_aload dT_wantedFiltering_37 rfl ?_ | refine aw_aloadQ dT_wantedFiltering_37 rfl ?_ | refine aw_aloadN dT_wantedFiltering_37 rfl ?_
          refine aw_get dT_wantedFiltering_39 fT_301 hst rfl ?_
          refine aw_callVN1 (mc' := 0) (ms' := 0) (kc' := kc) (ks' := ks) dT_wantedFiltering_42 cT_302 hf0 (Nat.le_of_ble_eq_true rfl) (Nat.le_of_ble_eq_true rfl) (by omega) (by omega) ?_
          refine hpl hb33 _ (fun hm => ?_) (fun hm => ?_)
          · refine ai_if_eq (tgt := 51) dT_wantedFiltering_45 (by decide) (by omega) (fun hb45 => absurd hb45 (by decide)) (fun _ => ?_)
            first | refine aw_aload dT_wantedFiltering_48 rfl ?_ | refine aw_aloadQ dT_wantedFiltering_48 rfl ?_ | refine aw_aloadN dT_wantedFiltering_48 rfl ?_
            refine aw_aret dT_wantedFiltering_50 rfl (by first | exact Or.inr ⟨_, rfl⟩ | exact Or.inl rfl | exact aw_rf_or _) ?_
            exact hold i h1 (by omega) hj ⟨by rw [hcs]; exact fun e => (by cases e), hb33, hm⟩
          · refine ai_if_eq (tgt := 51) dT_wantedFiltering_45 (by decide) (by omega) (fun _ => ?_) (fun hb45 => absurd hb45 (by decide))
            refine ai_iinc dT_wantedFiltering_51 rfl (by decide) rfl ?_
            refine aw_goto (tgt := 8) dT_wantedFiltering_54 (by decide) ?_
            refine ih (by omega) (by omega) _ (fun j q1 q2 => ?_)
            by_cases e : j = i
            · subst e
              first
                | exact fun z => hb33 z.2.1
                | exact fun z => hm z.2.2
            · exact hj j q1 (by omega)
theorem sp_wantF {G : aw_G} {d : Nat} {Q : aw_O → aw_J → Prop} {J : aw_J} {kc ks : Nat} {x aA aS aL aT aO aN : Nat} {nS nT : Int} {pl : Nat} {fo : Option Nat} {cL : Nat → Option Nat} {La : Int → Nat} {RP RF : Int → Option Nat} {M : Int → Prop} {PN : Nat → aw_J → Prop} (hkc : 2 ≤ kc) (hks : 8 ≤ ks) (hT : st_T J x aA aS aL aT aO aN nS nT) (hLA : J aL = some (.inl (G.2.2.1 5, 41, .inr (.inr (.inr (.inr cL)))))) (h0 : fo = none → Q (.inl (some (.ref pl))) J) (hH : ∀ i, 1 ≤ i → i ≤ 40 → cL i.toNat = none ∨ (cL i.toNat = some (La i) ∧ (∃ l k ca h dc g, st_L J (La i) l k (RP i) ca (RF i) h dc g) ∧ (∀ fa, fo = some fa → RP i = some pl → (∀ Q' : aw_O → aw_J → Prop, (M i → Q' (.inl (some (.int (iI 1)))) J) → (¬ M i → Q' (.inl (some (.int (iI 0)))) J) → aw_W G mF_isSame (d + 1 + 1 + 1) Q' 0 [some (.ref fa), some (va_rf (RF i))] [] J 0 0)))) (hff : ∀ fa, fo = some fa → ∃ vs, J fa = some (.inr (3, vs))) (hold : ¬ fo = none → ∀ i, 1 ≤ i → i ≤ 40 → (∀ j, 1 ≤ j → j < i → ¬ (¬ cL j.toNat = none ∧ RP j = some pl ∧ M j)) → (¬ cL i.toNat = none ∧ RP i = some pl ∧ M i) → Q (.inl (some (.ref (La i)))) J) (hnew : ∀ fa, fo = some fa → (∀ j, 1 ≤ j → j ≤ 40 → ¬ (¬ cL j.toNat = none ∧ RP j = some pl ∧ M j)) → ∀ q, J q = none → (∀ Q' : aw_O → aw_J → Prop, (∀ v J', PN v J' → Q' (.inl (some (.ref v))) J') → aw_W G mT_newLoader (d + 1 + 1 + 1) Q' 0 [some (.ref x), some (.int (iI 2)), some (.ref pl), some (.ref q), some (.ref fa), none, none] [] (aw_up J q (.inl (G.2.2.1 3, 0, .inr (.inr (.inr (.inr (fun _ => none))))))) 1 8)) (hN : ∀ v J', PN v J' → Q (.inl (some (.ref v))) J') : aw_W G mT_wantedFiltering (d + 1 + 1 + 1 + 1) Q 0 [some (.ref x), some (va_rf fo), some (.ref pl), none, none] [] J kc ks := by
  cases fo with
  | none =>
    refine aw_aload_nN dT_wantedFiltering_0 rfl ?_
    refine aw_ifnonnull (tgt := 6) (r := none) dT_wantedFiltering_1 (by decide) (fun hb1 => absurd hb1 (by simp)) (fun _ => ?_)
    refine aw_aload_n dT_wantedFiltering_4 rfl ?_
    refine aw_aret dT_wantedFiltering_5 rfl (by first | exact Or.inr ⟨_, rfl⟩ | exact Or.inl rfl | exact aw_rf_or _) ?_
    exact h0 rfl
  | some fa =>
    refine aw_aload_n dT_wantedFiltering_0 rfl ?_
    refine aw_ifnonnull (tgt := 6) (r := some fa) dT_wantedFiltering_1 (by decide) (fun _ => ?_) (fun hb1 => absurd hb1 (by simp))
    refine ai_iconst dT_wantedFiltering_6 ?_
    refine aw_istore_n dT_wantedFiltering_7 (by decide) rfl ?_
    exact sp_wantF_l hkc hks hT hLA (hff fa rfl) (fun i i1 i2 => (hH i i1 i2).imp id (fun m => ⟨m.1, m.2.1, m.2.2 fa rfl⟩)) (hold (fun e => by cases e)) (hnew fa rfl) hN 1 (by decide) (by decide) _ (fun j q1 q2 => absurd q2 (by omega))
end ST24
