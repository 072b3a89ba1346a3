/-! the class: descriptor, wipe, and the small methods of ScopeTree -/
section ST11
variable {G : aw_G} {d : Nat} {Q : aw_O → aw_J → Prop} {J : aw_J} {kc ks : Nat}
theorem sp_descriptor {x aA aS aL aT aO aN : Nat} {nS nT : Int} {cA : Nat → Option Nat} {i n u : Int} {a fa da : Nat} {cf cd : Nat → Option Nat} {nn mm : Int} {E : Int → Int × Int} (hkc : 3 ≤ kc) (hks : 15 ≤ ks) (hT : st_T J x aA aS aL aT aO aN nS nT) (hAA : J aA = some (.inl (G.2.2.1 3, 10, .inr (.inr (.inr (.inr cA)))))) (hi : iB i) (hn : iB n) (hu : iB u) (hAr : 0 ≤ i ∧ i < 10 → cA i.toNat = some a ∧ st_A G J a fa da cf cd nn mm ∧ st_DE J cd mm E) (hbad : ¬ ((0 ≤ i ∧ i < 10) ∧ (0 ≤ n ∧ n < 10) ∧ (0 ≤ u ∧ u < 64)) → Q (.inr "java/lang/IllegalArgumentException") J) (hfull : (0 ≤ i ∧ i < 10) ∧ (0 ≤ n ∧ n < 10) ∧ (0 ≤ u ∧ u < 64) → ∀ k, mo_lst (fun j => (E j).1 = n) mm k → k = 4 → ∀ q, J q = none → Q (.inr "java/lang/IllegalStateException") (aw_up J q (.inr (2, [.int (iI n), .int (iI u)])))) (hok : (0 ≤ i ∧ i < 10) ∧ (0 ≤ n ∧ n < 10) ∧ (0 ≤ u ∧ u < 64) → ∀ k, mo_lst (fun j => (E j).1 = n) mm k → k < 4 → ∀ q, J q = none → Q (.inl (some (.int (iI (if mm < k + 1 then k + 1 else mm))))) (aw_up (aw_up (aw_up J q (.inr (2, [.int (iI n), .int (iI u)]))) da (.inl (G.2.2.1 8, 4, .inr (.inr (.inr (.inr (va_up cd k.toNat (some q)))))))) a (.inr (0, [.ref fa, .int (iI nn), .ref da, .int (iI (if mm < k + 1 then k + 1 else mm))])))) : aw_W G mT_descriptor (d + 3) Q 0 [some (.ref x), some (.int (iI i)), some (.int (iI n)), some (.int (iI u)), none] [] J kc ks := by
  first | refine aw_aload_n dT_descriptor_0 rfl ?_ | refine aw_aload_nQ dT_descriptor_0 rfl ?_ | refine aw_aload_nN dT_descriptor_0 rfl ?_
  refine aw_iload_n dT_descriptor_1 rfl ?_
  refine aw_callV1 (mc' := 1) (ms' := 6) (kc' := (kc - 1)) (ks' := (ks - 6)) dT_descriptor_2 cT_76 hT (Nat.le_of_ble_eq_true rfl) (Nat.le_of_ble_eq_true rfl) (by omega) (by omega) rfl ?_
  refine sp_archiveAt (by omega) (by omega) hT hAA hi (fun hr => ?_) (fun hr => ?_)
  · exact hbad (by omega)
  · obtain ⟨ha1, hA, hE⟩ := hAr hr
    rw [ha1]
    first | refine aw_astore dT_descriptor_5 (by decide) rfl ?_ | refine aw_astoreQ dT_descriptor_5 (by decide) rfl ?_ | refine aw_astoreN dT_descriptor_5 (by decide) rfl ?_
    refine aw_iload_n dT_descriptor_7 rfl ?_
    refine ai_bipush dT_descriptor_8 (by decide +kernel) ?_
    refine aw_callS2 (mc' := 0) (ms' := 0) (kc' := (kc - 1)) (ks' := (ks - 6)) dT_descriptor_10 cT_80 (Nat.le_of_ble_eq_true rfl) (Nat.le_of_ble_eq_true rfl) (by omega) (by omega) rfl ?_
    refine sp_below (by omega) (by decide) (fun hi10 => ?_) (fun hi10 => ?_)
    · refine ai_if_eq (tgt := 25) dT_descriptor_13 (by decide) (by omega) (fun hb13 => absurd hb13 (by decide)) (fun _ => ?_)
      refine aw_iload_n dT_descriptor_16 rfl ?_
      refine ai_bipush dT_descriptor_17 (by decide +kernel) ?_
      refine aw_callS2 (mc' := 0) (ms' := 0) (kc' := (kc - 1)) (ks' := (ks - 6)) dT_descriptor_19 cT_80 (Nat.le_of_ble_eq_true rfl) (Nat.le_of_ble_eq_true rfl) (by omega) (by omega) rfl ?_
      refine sp_below (by omega) (by decide) (fun hi19 => ?_) (fun hi19 => ?_)
      · refine ai_if_ne (tgt := 35) dT_descriptor_22 (by decide) (by omega) (fun _ => ?_) (fun hb22 => absurd hb22 (by decide))
        first | refine aw_aload dT_descriptor_35 rfl ?_ | refine aw_aloadQ dT_descriptor_35 rfl ?_ | refine aw_aloadN dT_descriptor_35 rfl ?_
        refine aw_new (kc' := kc - 2) (ks' := ks - 8) dT_descriptor_37 nT_112 (by omega) (by omega) (fun q hq0 => ?_)
        refine aw_dup dT_descriptor_40 rfl ?_
        refine aw_iload_n dT_descriptor_41 rfl ?_
        refine aw_iload_n dT_descriptor_42 rfl ?_
        refine aw_callIN2 (mc' := 0) (ms' := 0) (kc' := (kc - 2)) (ks' := (ks - 8)) dT_descriptor_43 cT_114 (Nat.le_of_ble_eq_true rfl) (Nat.le_of_ble_eq_true rfl) (by omega) (by omega) ?_
        refine sp_Dinit aw_up_s ?_
        rw [aw_uu]
        have hA2 := hA.up (e := .inr (2, [.int (iI n), .int (iI u)])) hq0
        have hE2 := hE.up (e := .inr (2, [.int (iI n), .int (iI u)])) hq0
        refine aw_callVN1 (mc' := 0) (ms' := 0) (kc' := (kc - 2)) (ks' := (ks - 8)) dT_descriptor_46 cT_117 hA2.1 (Nat.le_of_ble_eq_true rfl) (Nat.le_of_ble_eq_true rfl) (by omega) (by omega) ?_
        refine sp_putD hA2 hE2 hn aw_up_s (fun k hk h8 => ?_) (fun k hk h8 => ?_)
        · refine ai_if_ne (tgt := 62) dT_descriptor_49 (by decide) (by omega) (fun hb49 => absurd hb49 (by decide)) (fun _ => ?_)
          refine aw_throw t_121 rfl dT_descriptor_52 dT_descriptor_55 dT_descriptor_56 dT_descriptor_58 dT_descriptor_61 (Nat.le_of_ble_eq_true rfl) (by omega) (by omega) ?_
          exact hfull (by omega) k hk h8 q hq0
        · refine ai_if_ne (tgt := 62) dT_descriptor_49 (by decide) (by omega) (fun _ => ?_) (fun hb49 => absurd hb49 (by decide))
          first | refine aw_aload dT_descriptor_62 rfl ?_ | refine aw_aloadQ dT_descriptor_62 rfl ?_ | refine aw_aloadN dT_descriptor_62 rfl ?_
          refine aw_get dT_descriptor_64 fT_123 aw_up_s rfl ?_
          refine aw_iret dT_descriptor_67 rfl ?_
          exact hok (by omega) k hk h8 q hq0
      · refine ai_if_ne (tgt := 35) dT_descriptor_22 (by decide) (by omega) (fun hb22 => absurd hb22 (by decide)) (fun _ => ?_)
        refine aw_throw t_110 rfl dT_descriptor_25 dT_descriptor_28 dT_descriptor_29 dT_descriptor_31 dT_descriptor_34 (Nat.le_of_ble_eq_true rfl) (by omega) (by omega) ?_
        exact hbad (by omega)
    · refine ai_if_eq (tgt := 25) dT_descriptor_13 (by decide) (by omega) (fun _ => ?_) (fun hb13 => absurd hb13 (by decide))
      refine aw_throw t_110 rfl dT_descriptor_25 dT_descriptor_28 dT_descriptor_29 dT_descriptor_31 dT_descriptor_34 (Nat.le_of_ble_eq_true rfl) (by omega) (by omega) ?_
      exact hbad (by omega)

theorem sp_wipe {x aA aS aL aT aO aN : Nat} {nS nT : Int} {cA : Nat → Option Nat} {i : Int} {a fa da : Nat} {cf cd : Nat → Option Nat} {nn mm : Int} (hkc : 1 ≤ kc) (hks : 6 ≤ ks) (hT : st_T J x aA aS aL aT aO aN nS nT) (hAA : J aA = some (.inl (G.2.2.1 3, 10, .inr (.inr (.inr (.inr cA)))))) (hi : iB i) (hAr : 0 ≤ i ∧ i < 10 → cA i.toNat = some a ∧ st_A G J a fa da cf cd nn mm) (hbad : ¬ (0 ≤ i ∧ i < 10) → Q (.inr "java/lang/IllegalArgumentException") J) (hok : 0 ≤ i ∧ i < 10 → Q (.inl none) (aw_up J a (.inr (0, [.ref fa, .int (iI 0), .ref da, .int (iI 0)])))) : aw_W G mT_wipe (d + 2) Q 0 [some (.ref x), some (.int (iI i)), none] [] J kc ks := by
  first | refine aw_aload_n dT_wipe_0 rfl ?_ | refine aw_aload_nQ dT_wipe_0 rfl ?_ | refine aw_aload_nN dT_wipe_0 rfl ?_
  refine aw_iload_n dT_wipe_1 rfl ?_
  refine aw_callV1 (mc' := 1) (ms' := 6) (kc' := (kc - 1)) (ks' := (ks - 6)) dT_wipe_2 cT_76 hT (Nat.le_of_ble_eq_true rfl) (Nat.le_of_ble_eq_true rfl) (by omega) (by omega) rfl ?_
  refine sp_archiveAt (by omega) (by omega) hT hAA hi (fun hr => ?_) (fun hr => ?_)
  · exact hbad (by omega)
  · obtain ⟨ha1, hA⟩ := hAr hr
    rw [ha1]
    first | refine aw_astore_n dT_wipe_5 (by decide) rfl ?_ | refine aw_astore_nQ dT_wipe_5 (by decide) rfl ?_ | refine aw_astore_nN dT_wipe_5 (by decide) rfl ?_
    first | refine aw_aload_n dT_wipe_6 rfl ?_ | refine aw_aload_nQ dT_wipe_6 rfl ?_ | refine aw_aload_nN dT_wipe_6 rfl ?_
    refine ai_iconst dT_wipe_7 ?_
    refine aw_put dT_wipe_8 sT_107 hA.1 rfl rfl (Nat.le_of_ble_eq_true rfl) ?_
    first | refine aw_aload_n dT_wipe_11 rfl ?_ | refine aw_aload_nQ dT_wipe_11 rfl ?_ | refine aw_aload_nN dT_wipe_11 rfl ?_
    refine ai_iconst dT_wipe_12 ?_
    refine aw_put dT_wipe_13 sT_123 aw_up_s rfl rfl (Nat.le_of_ble_eq_true rfl) ?_
    refine aw_vret dT_wipe_16 rfl ?_
    rw [aw_uu]
    exact hok hr

theorem sp_scopeAt {x aA aS aL aT aO aN : Nat} {nS nT : Int} {cS : Nat → Option Nat} {i : Int} (hkc : 1 ≤ kc) (hks : 6 ≤ ks) (hT : st_T J x aA aS aL aT aO aN nS nT) (hSA : J aS = some (.inl (G.2.2.1 4, 12, .inr (.inr (.inr (.inr cS)))))) (hn : 0 ≤ nS ∧ nS ≤ 12) (hi : iB i) (hbad : ¬ (0 ≤ i ∧ i < nS) → Q (.inr "java/lang/IllegalArgumentException") J) (hok : 0 ≤ i ∧ i < nS → Q (.inl (some (va_rf (cS i.toNat)))) J) : aw_W G mT_scopeAt (d + 1) Q 0 [some (.ref x), some (.int (iI i))] [] J kc ks := by
  refine aw_iload_n dT_scopeAt_0 rfl ?_
  first | refine aw_aload_n dT_scopeAt_1 rfl ?_ | refine aw_aload_nQ dT_scopeAt_1 rfl ?_ | refine aw_aload_nN dT_scopeAt_1 rfl ?_
  refine aw_get dT_scopeAt_2 fT_73 hT rfl ?_
  refine aw_callS2 (mc' := 0) (ms' := 0) (kc' := kc) (ks' := ks) dT_scopeAt_5 cT_80 (Nat.le_of_ble_eq_true rfl) (Nat.le_of_ble_eq_true rfl) (by omega) (by omega) rfl ?_
  refine sp_below (by omega) (by omega) (fun hi5 => ?_) (fun hi5 => ?_)
  · refine ai_if_ne (tgt := 22) dT_scopeAt_8 (by decide) (by omega) (fun _ => ?_) (fun hb8 => absurd hb8 (by decide))
    first | refine aw_aload_n dT_scopeAt_22 rfl ?_ | refine aw_aload_nQ dT_scopeAt_22 rfl ?_ | refine aw_aload_nN dT_scopeAt_22 rfl ?_
    refine aw_get dT_scopeAt_23 fT_17 hT rfl ?_
    refine aw_iload_n dT_scopeAt_26 rfl ?_
    refine aw_aald dT_scopeAt_27 rfl hSA (iI_in (by omega) (by omega) (by omega)) ?_
    rw [iI_cl (by omega)]
    refine aw_aret dT_scopeAt_28 rfl (by first | exact Or.inr ⟨_, rfl⟩ | exact Or.inl rfl | exact aw_rf_or _) ?_
    exact hok (by omega)
  · refine ai_if_ne (tgt := 22) dT_scopeAt_8 (by decide) (by omega) (fun hb8 => absurd hb8 (by decide)) (fun _ => ?_)
    refine aw_throwW t_275 rfl dT_scopeAt_11 dT_scopeAt_14 dT_scopeAt_15 dT_scopeAt_18 dT_scopeAt_21 (Nat.le_of_ble_eq_true rfl) (by omega) (by omega) ?_
    exact hbad (by omega)

theorem sp_requireOpen {a lp ep aa k : Nat} {rp rf r1 r2 r3 : Option Nat} {n : Int} (hkc : 1 ≤ kc) (hks : 6 ≤ ks) (hk : k < 3) (hS : st_S J a rp lp ep rf (G.2.2.2.1 k) r1 r2 r3 aa n) (hok : k = 0 → Q (.inl none) J) (hx : ¬ k = 0 → Q (.inr "java/lang/IllegalStateException") J) : aw_W G mT_requireOpen d Q 0 [some (.ref a)] [] J kc ks := by
  refine aw_ens (fun he => ?_)
  first | refine aw_aload_n dT_requireOpen_0 rfl ?_ | refine aw_aload_nQ dT_requireOpen_0 rfl ?_ | refine aw_aload_nN dT_requireOpen_0 rfl ?_
  refine aw_get dT_requireOpen_1 fT_60 hS rfl ?_
  refine aw_gets (i := 0) dT_requireOpen_4 (by decide) wT_2_176 ?_
  refine aw_acmp_eq (tgt := 21) (x := some (G.2.2.2.1 k)) (y := some (G.2.2.2.1 0)) dT_requireOpen_7 (by decide) (fun hb7 => ?_) (fun hb7 => ?_)
  · refine aw_vret dT_requireOpen_21 rfl ?_
    exact hok (he k 0 hk (by decide) (Option.some.inj hb7))
  · refine aw_throwW t_282 rfl dT_requireOpen_10 dT_requireOpen_13 dT_requireOpen_14 dT_requireOpen_17 dT_requireOpen_20 (Nat.le_of_ble_eq_true rfl) (by omega) (by omega) ?_
    exact hx (fun z => hb7 (by rw [z]))

theorem sp_requireLocked {a lp ep aa k : Nat} {rp rf r1 r2 r3 : Option Nat} {n : Int} (hkc : 1 ≤ kc) (hks : 6 ≤ ks) (hk : k < 3) (hS : st_S J a rp lp ep rf (G.2.2.2.1 k) r1 r2 r3 aa n) (hok : k = 1 → Q (.inl none) J) (hx : ¬ k = 1 → Q (.inr "java/lang/IllegalStateException") J) : aw_W G mT_requireLocked d Q 0 [some (.ref a)] [] J kc ks := by
  refine aw_ens (fun he => ?_)
  first | refine aw_aload_n dT_requireLocked_0 rfl ?_ | refine aw_aload_nQ dT_requireLocked_0 rfl ?_ | refine aw_aload_nN dT_requireLocked_0 rfl ?_
  refine aw_get dT_requireLocked_1 fT_60 hS rfl ?_
  refine aw_gets (i := 1) dT_requireLocked_4 (by decide) wT_1_183 ?_
  refine aw_acmp_eq (tgt := 21) (x := some (G.2.2.2.1 k)) (y := some (G.2.2.2.1 1)) dT_requireLocked_7 (by decide) (fun hb7 => ?_) (fun hb7 => ?_)
  · refine aw_vret dT_requireLocked_21 rfl ?_
    exact hok (he k 1 hk (by decide) (Option.some.inj hb7))
  · refine aw_throwW t_284 rfl dT_requireLocked_10 dT_requireLocked_13 dT_requireLocked_14 dT_requireLocked_17 dT_requireLocked_20 (Nat.le_of_ble_eq_true rfl) (by omega) (by omega) ?_
    exact hx (fun z => hb7 (by rw [z]))

theorem aw_lcs {M : aw_M} {pc : Nat} {L1 L2 : List (Option Value)} {st : List Value} (h : L1 = L2) (k : aw_W G M d Q pc L2 st J kc ks) : aw_W G M d Q pc L1 st J kc ks := h ▸ k
theorem sp_freeNumbers_l {x aA aS aL aT aO aN : Nat} {nS nT : Int} {cL : Nat → Option Nat} {f : Int → Int} (hT : st_T J x aA aS aL aT aO aN nS nT) (hLA : J aL = some (.inl (G.2.2.1 5, 41, .inr (.inr (.inr (.inr cL)))))) (hcl : ∀ l, 1 ≤ l → l ≤ 40 → (cL l.toNat = none ↔ f l = 0)) (hk : Q (.inl (some (.int (iI (mo_fr f 40))))) J) : ∀ i : Int, i ≤ 41 → 1 ≤ i → aw_W G mT_freeLoaderNumbers d Q 4 [some (.ref x), some (.int (iI (mo_fr f (i - 1).toNat))), some (.int (iI i))] [] J kc ks := by
  refine il_up 41 (fun i hi ih h0 => ?_)
  refine aw_iload_n dT_freeLoaderNumbers_4 rfl ?_
  refine ai_bipush dT_freeLoaderNumbers_5 (by decide +kernel) ?_
  refine ai_icmp_ge (tgt := 28) dT_freeLoaderNumbers_7 (by decide) (by omega) (by omega) (fun hb7 => ?_) (fun hb7 => ?_)
  · refine aw_iload_n dT_freeLoaderNumbers_28 rfl ?_
    refine aw_iret dT_freeLoaderNumbers_29 rfl ?_
    have e9 : i = 41 := by omega
    subst e9
    exact hk
  · first | refine aw_aload_n dT_freeLoaderNumbers_10 rfl ?_ | refine aw_aload_nQ dT_freeLoaderNumbers_10 rfl ?_ | refine aw_aload_nN dT_freeLoaderNumbers_10 rfl ?_
    refine aw_get dT_freeLoaderNumbers_11 fT_23 hT rfl ?_
    refine aw_iload_n dT_freeLoaderNumbers_14 rfl ?_
    refine aw_aald dT_freeLoaderNumbers_15 rfl hLA (iI_in (by omega) (by omega) (by omega)) ?_
    rw [iI_cl (by omega)]
    have hci := hcl i h0 (by omega)
    refine aw_ifnonnull (tgt := 22) (r := cL i.toNat) dT_freeLoaderNumbers_16 (by decide) (fun hb16 => ?_) (fun hb16 => ?_)
    · refine ai_iinc dT_freeLoaderNumbers_22 rfl (by decide) rfl ?_
      refine aw_goto (tgt := 4) dT_freeLoaderNumbers_25 (by decide) ?_
      have e1 := mo_fr_s f h0
      refine aw_lcs ?_ (ih (by omega) (by omega))
      rw [show (i + 1 - 1) = i by omega, e1]
      first | rw [if_pos (hci.mp (by assumption))] | (rw [if_neg (fun z => absurd (hci.mpr z) (by assumption)), Int.add_zero])
      rfl
    · refine ai_iinc dT_freeLoaderNumbers_19 rfl (by decide) rfl ?_
      refine ai_iinc dT_freeLoaderNumbers_22 rfl (by decide) rfl ?_
      refine aw_goto (tgt := 4) dT_freeLoaderNumbers_25 (by decide) ?_
      have e1 := mo_fr_s f h0
      refine aw_lcs ?_ (ih (by omega) (by omega))
      rw [show (i + 1 - 1) = i by omega, e1]
      first | rw [if_pos (hci.mp (by assumption))] | (rw [if_neg (fun z => absurd (hci.mpr z) (by assumption)), Int.add_zero])
      rfl
theorem sp_freeNumbers {x aA aS aL aT aO aN : Nat} {nS nT : Int} {cL : Nat → Option Nat} {f : Int → Int} (hT : st_T J x aA aS aL aT aO aN nS nT) (hLA : J aL = some (.inl (G.2.2.1 5, 41, .inr (.inr (.inr (.inr cL)))))) (hcl : ∀ l, 1 ≤ l → l ≤ 40 → (cL l.toNat = none ↔ f l = 0)) (hk : Q (.inl (some (.int (iI (mo_fr f 40))))) J) : aw_W G mT_freeLoaderNumbers d Q 0 [some (.ref x), none, none] [] J kc ks := by
  refine ai_iconst dT_freeLoaderNumbers_0 ?_
  refine aw_istore_n dT_freeLoaderNumbers_1 (by decide) rfl ?_
  refine ai_iconst dT_freeLoaderNumbers_2 ?_
  refine aw_istore_n dT_freeLoaderNumbers_3 (by decide) rfl ?_
  exact sp_freeNumbers_l hT hLA hcl hk 1 (by decide) (by decide)
theorem sp_least_l {x aA aS aL aT aO aN : Nat} {nS nT : Int} {cL : Nat → Option Nat} {f : Int → Int} (hT : st_T J x aA aS aL aT aO aN nS nT) (hLA : J aL = some (.inl (G.2.2.1 5, 41, .inr (.inr (.inr (.inr cL)))))) (hcl : ∀ l, 1 ≤ l → l ≤ 40 → (cL l.toNat = none ↔ f l = 0)) (hfree : ∃ j, 1 ≤ j ∧ j ≤ 40 ∧ f j = 0) (hk : ∀ l, 1 ≤ l → l ≤ 40 → (∀ j, 1 ≤ j → j < l → ¬ f j = 0) → f l = 0 → Q (.inl (some (.int (iI l)))) J) : ∀ i : Int, i ≤ 40 → 1 ≤ i → (∀ j, 1 ≤ j → j < i → ¬ f j = 0) → aw_W G mT_leastFreeLoaderNumber d Q 2 [some (.ref x), some (.int (iI i))] [] J kc ks := by
  refine il_up 40 (fun i hi ih h0 hj => ?_)
  refine aw_iload_n dT_leastFreeLoaderNumber_2 rfl ?_
  refine ai_bipush dT_leastFreeLoaderNumber_3 (by decide +kernel) ?_
  refine ai_icmp_ge (tgt := 23) dT_leastFreeLoaderNumber_5 (by decide) (by omega) (by omega) (fun hb5 => ?_) (fun hb5 => ?_)
  · refine aw_iload_n dT_leastFreeLoaderNumber_23 rfl ?_
    refine aw_iret dT_leastFreeLoaderNumber_24 rfl ?_
    first
      | exact hk i h0 (by omega) hj (hci.mp (by assumption))
      | (refine hk i h0 (by omega) hj ?_
         obtain ⟨j, q1, q2, q3⟩ := hfree
         by_cases e : j = i
         · rw [← e]; exact q3
         · exact absurd q3 (hj j q1 (by omega)))
  · first | refine aw_aload_n dT_leastFreeLoaderNumber_8 rfl ?_ | refine aw_aload_nQ dT_leastFreeLoaderNumber_8 rfl ?_ | refine aw_aload_nN dT_leastFreeLoaderNumber_8 rfl ?_
    refine aw_get dT_leastFreeLoaderNumber_9 fT_23 hT rfl ?_
    refine aw_iload_n dT_leastFreeLoaderNumber_12 rfl ?_
    refine aw_aald dT_leastFreeLoaderNumber_13 rfl hLA (iI_in (by omega) (by omega) (by omega)) ?_
    rw [iI_cl (by omega)]
    have hci := hcl i h0 (by omega)
    refine aw_ifnull (tgt := 23) (r := cL i.toNat) dT_leastFreeLoaderNumber_14 (by decide) (fun hb14 => ?_) (fun hb14 => ?_)
    · refine aw_iload_n dT_leastFreeLoaderNumber_23 rfl ?_
      refine aw_iret dT_leastFreeLoaderNumber_24 rfl ?_
      first
        | exact hk i h0 (by omega) hj (hci.mp (by assumption))
        | (refine hk i h0 (by omega) hj ?_
           obtain ⟨j, q1, q2, q3⟩ := hfree
           by_cases e : j = i
           · rw [← e]; exact q3
           · exact absurd q3 (hj j q1 (by omega)))
    · refine ai_iinc dT_leastFreeLoaderNumber_17 rfl (by decide) rfl ?_
      refine aw_goto (tgt := 2) dT_leastFreeLoaderNumber_20 (by decide) ?_
      refine ih (by omega) (by omega) (fun j q1 q2 => ?_)
      by_cases e : j = i
      · subst e; exact fun z => absurd (hci.mpr z) (by assumption)
      · exact hj j q1 (by omega)
theorem sp_least {x aA aS aL aT aO aN : Nat} {nS nT : Int} {cL : Nat → Option Nat} {f : Int → Int} (hT : st_T J x aA aS aL aT aO aN nS nT) (hLA : J aL = some (.inl (G.2.2.1 5, 41, .inr (.inr (.inr (.inr cL)))))) (hcl : ∀ l, 1 ≤ l → l ≤ 40 → (cL l.toNat = none ↔ f l = 0)) (hfree : ∃ j, 1 ≤ j ∧ j ≤ 40 ∧ f j = 0) (hk : ∀ l, 1 ≤ l → l ≤ 40 → (∀ j, 1 ≤ j → j < l → ¬ f j = 0) → f l = 0 → Q (.inl (some (.int (iI l)))) J) : aw_W G mT_leastFreeLoaderNumber d Q 0 [some (.ref x), none] [] J kc ks := by
  refine ai_iconst dT_leastFreeLoaderNumber_0 ?_
  refine aw_istore_n dT_leastFreeLoaderNumber_1 (by decide) rfl ?_
  exact sp_least_l hT hLA hcl hfree hk 1 (by decide) (by decide) (fun j q1 q2 => absurd q2 (by omega))
end ST11
