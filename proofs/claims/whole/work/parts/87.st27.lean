/-! typeFromScope, load, apply -/
section ST27
theorem sp_tfs {G : aw_G} {d : Nat} {Q : aw_O → aw_J → Prop} {J : aw_J} {kc ks : Nat} {x a lp ep aa st e3 mc ms : Nat} {rp rf r1 r2 : Option Nat} {n m : Int} {PN PT : aw_J → Prop} {PV : Nat → aw_J → Prop} (hkc : mc + 1 ≤ kc) (hks : ms + 6 ≤ ks) (hS : st_S J a rp lp ep rf st r1 r2 (some e3) aa n) (hx : ∃ vs, J x = some (.inr (8, vs))) (hf : (∀ Q' : aw_O → aw_J → Prop, (∀ J', PN J' → Q' (.inl (some .null)) J') → (∀ J', PT J' → Q' (.inr "java/lang/UnsupportedOperationException") J') → (∀ w J', PV w J' → Q' (.inl (some (.ref w))) J') → aw_W G mT_findFrom (d + 1) Q' 0 [some (.ref x), some (.ref e3), some (.int (iI m)), some (.int (iI 0)), none, none] [] J mc ms)) (hPN : ∀ J', PN J' → Q (.inr "java/util/NoSuchElementException") J') (hPT : ∀ J', PT J' → Q (.inr "java/lang/UnsupportedOperationException") J') (hPV : ∀ v J', PV v J' → Q (.inl (some (.ref v))) J') : aw_W G mT_typeFromScope (d + 2) Q 0 [some (.ref x), some (.ref a), some (.int (iI m)), none] [] J kc ks := by
  obtain ⟨vx, hx⟩ := hx
  first | refine aw_aload_n dT_typeFromScope_0 rfl ?_ | refine aw_aload_nQ dT_typeFromScope_0 rfl ?_ | refine aw_aload_nN dT_typeFromScope_0 rfl ?_
  first | refine aw_aload_n dT_typeFromScope_1 rfl ?_ | refine aw_aload_nQ dT_typeFromScope_1 rfl ?_ | refine aw_aload_nN dT_typeFromScope_1 rfl ?_
  refine aw_get dT_typeFromScope_2 fT_67 hS rfl ?_
  refine aw_iload_n dT_typeFromScope_5 rfl ?_
  refine ai_iconst dT_typeFromScope_6 ?_
  refine aw_callV3 (mc' := mc) (ms' := ms) (kc' := (kc - mc)) (ks' := (ks - ms)) dT_typeFromScope_7 cT_315 hx (Nat.le_of_ble_eq_true rfl) (Nat.le_of_ble_eq_true rfl) (by omega) (by omega) rfl ?_
  refine hf _ (fun J2 hp => ?_) (fun J2 hp => ?_) (fun w J2 hp => ?_)
  · refine aw_astore_nN dT_typeFromScope_10 (by decide) rfl ?_
    refine aw_aload_nN dT_typeFromScope_11 rfl ?_
    refine aw_ifnonnull (tgt := 26) (r := none) dT_typeFromScope_12 (by decide) (fun z => absurd rfl z) (fun _ => ?_)
    refine aw_throwN (zz := 7) t_319 rfl dT_typeFromScope_15 dT_typeFromScope_18 (Or.inr ⟨dT_typeFromScope_19, rfl⟩) dT_typeFromScope_22 dT_typeFromScope_25 (Nat.le_of_ble_eq_true rfl) (by omega) (by omega) ?_
    exact hPN J2 hp
  · exact hPT J2 hp
  · refine aw_astore_n dT_typeFromScope_10 (by decide) rfl ?_
    refine aw_aload_n dT_typeFromScope_11 rfl ?_
    refine aw_ifnonnull (tgt := 26) (r := some w) dT_typeFromScope_12 (by decide) (fun _ => ?_) (fun z => absurd z (by simp))
    refine aw_aload_n dT_typeFromScope_26 rfl ?_
    refine aw_aret dT_typeFromScope_27 rfl (Or.inr ⟨_, rfl⟩) ?_
    exact hPV w J2 hp

theorem sp_load {G : aw_G} {d : Nat} {Q : aw_O → aw_J → Prop} {J : aw_J} {kc ks : Nat} {x aA aS aL aT aO aN : Nat} {nS nT : Int} {cS : Nat → Option Nat} {a lp ep aa k : Nat} {rp rf r1 r2 r3 : Option Nat} {n i : Int} {mc ms : Nat} {m : Int} {PN PT : aw_J → Prop} {PV : Nat → aw_J → Prop} (hkc : mc + 3 ≤ kc) (hks : ms + 18 ≤ ks) (hT : st_T J x aA aS aL aT aO aN nS nT) (hSA : J aS = some (.inl (G.2.2.1 4, 12, .inr (.inr (.inr (.inr cS)))))) (hn : 0 ≤ nS ∧ nS ≤ 12) (hi : iB i) (hSc : 0 ≤ i ∧ i < nS → cS i.toNat = some a ∧ k < 3 ∧ st_S J a rp lp ep rf (G.2.2.2.1 k) r1 r2 r3 aa n) (hm : iB m) (hbad : ¬ ((0 ≤ i ∧ i < nS) ∧ 0 ≤ m ∧ m < 64) → Q (.inr "java/lang/IllegalArgumentException") J) (hst : ((0 ≤ i ∧ i < nS) ∧ 0 ≤ m ∧ m < 64) → ¬ k = 1 → Q (.inr "java/lang/IllegalStateException") J) (hgo : ((0 ≤ i ∧ i < nS) ∧ 0 ≤ m ∧ m < 64) → k = 1 → (∀ Q' : aw_O → aw_J → Prop, (∀ J', PN J' → Q' (.inr "java/util/NoSuchElementException") J') → (∀ J', PT J' → Q' (.inr "java/lang/UnsupportedOperationException") J') → (∀ w J', PV w J' → Q' (.inl (some (.ref w))) J') → aw_W G mT_typeFromScope (d + 1 + 1) Q' 0 [some (.ref x), some (.ref a), some (.int (iI m)), none] [] J mc ms)) (hPN : ∀ J', PN J' → Q (.inr "java/util/NoSuchElementException") J') (hPT : ∀ J', PT J' → Q (.inr "java/lang/UnsupportedOperationException") J') (hPV : ∀ v J', PV v J' → ∃ c vs, J' v = some (.inr (7, .int (iI c) :: vs)) ∧ Q (.inl (some (.int (iI c)))) J') : aw_W G mT_load (d + 1 + 1 + 1) Q 0 [some (.ref x), some (.int (iI i)), some (.int (iI m)), none] [] J kc ks := by
  first | refine aw_aload_n dT_load_0 rfl ?_ | refine aw_aload_nQ dT_load_0 rfl ?_ | refine aw_aload_nN dT_load_0 rfl ?_
  refine aw_iload_n dT_load_1 rfl ?_
  refine aw_callV1 (mc' := 1) (ms' := 6) (kc' := (kc - 1)) (ks' := (ks - 6)) dT_load_2 cT_126 hT (Nat.le_of_ble_eq_true rfl) (Nat.le_of_ble_eq_true rfl) (by omega) (by omega) rfl ?_
  refine sp_scopeAt (by omega) (by omega) hT hSA hn hi (fun hr => ?_) (fun hr => ?_)
  · exact hbad (fun z => hr z.1)
  · obtain ⟨hc, hk3, hs⟩ := hSc hr
    rw [hc]
    first | refine aw_astore_n dT_load_5 (by decide) rfl ?_ | refine aw_astore_nQ dT_load_5 (by decide) rfl ?_ | refine aw_astore_nN dT_load_5 (by decide) rfl ?_
    refine aw_iload_n dT_load_6 rfl ?_
    refine ai_bipush dT_load_7 (by decide +kernel) ?_
    refine aw_callS2 (mc' := 0) (ms' := 0) (kc' := (kc - 1)) (ks' := (ks - 6)) dT_load_9 cT_80 (Nat.le_of_ble_eq_true rfl) (Nat.le_of_ble_eq_true rfl) (by omega) (by omega) rfl ?_
    refine sp_below hm (by decide) (fun hi9 => ?_) (fun hi9 => ?_)
    · refine ai_if_ne (tgt := 25) dT_load_12 (by decide) (by omega) (fun _ => ?_) (fun hb12 => absurd hb12 (by decide))
      first | refine aw_aload_n dT_load_25 rfl ?_ | refine aw_aload_nQ dT_load_25 rfl ?_ | refine aw_aload_nN dT_load_25 rfl ?_
      refine aw_callS1 (mc' := 1) (ms' := 6) (kc' := (kc - 2)) (ks' := (ks - 12)) dT_load_26 cT_217 (Nat.le_of_ble_eq_true rfl) (Nat.le_of_ble_eq_true rfl) (by omega) (by omega) rfl ?_
      refine sp_requireLocked (by omega) (by omega) hk3 hs (fun hk1 => ?_) (fun hk1 => ?_)
      · first | refine aw_aload_n dT_load_29 rfl ?_ | refine aw_aload_nQ dT_load_29 rfl ?_ | refine aw_aload_nN dT_load_29 rfl ?_
        first | refine aw_aload_n dT_load_30 rfl ?_ | refine aw_aload_nQ dT_load_30 rfl ?_ | refine aw_aload_nN dT_load_30 rfl ?_
        refine aw_iload_n dT_load_31 rfl ?_
        refine aw_callV2 (mc' := mc) (ms' := ms) (kc' := (kc - 2 - mc)) (ks' := (ks - 12 - ms)) dT_load_32 cT_220 hT (Nat.le_of_ble_eq_true rfl) (Nat.le_of_ble_eq_true rfl) (by omega) (by omega) rfl ?_
        refine hgo ⟨hr, by omega⟩ hk1 _ (fun J2 hp => ?_) (fun J2 hp => ?_) (fun w J2 hp => ?_)
        · exact hPN J2 hp
        · exact hPT J2 hp
        · obtain ⟨c, vs, hJ2, hq2⟩ := hPV w J2 hp
          refine aw_get dT_load_35 fT_224 hJ2 rfl ?_
          refine aw_iret dT_load_38 rfl ?_
          exact hq2
      · exact hst ⟨hr, by omega⟩ hk1
    · refine ai_if_ne (tgt := 25) dT_load_12 (by decide) (by omega) (fun hb12 => absurd hb12 (by decide)) (fun _ => ?_)
      refine aw_throw t_215 rfl dT_load_15 dT_load_18 dT_load_19 dT_load_21 dT_load_24 (Nat.le_of_ble_eq_true rfl) (by omega) (by omega) ?_
      exact hbad (fun z => by omega)

theorem sp_apply {G : aw_G} {d : Nat} {Q : aw_O → aw_J → Prop} {J : aw_J} {kc ks : Nat} {x aA aS aL aT aO aN : Nat} {nS nT : Int} {cS : Nat → Option Nat} {a lp ep aa k : Nat} {rp rf r1 r2 r3 : Option Nat} {n i : Int} {mc ms e3 : Nat} {p : Int} {PD : Nat → Int → Prop} {P0 : Prop} {PN PT : aw_J → Prop} {PV : Nat → aw_J → Prop} (hkc : mc + 3 ≤ kc) (hks : ms + 18 ≤ ks) (hT : st_T J x aA aS aL aT aO aN nS nT) (hSA : J aS = some (.inl (G.2.2.1 4, 12, .inr (.inr (.inr (.inr cS)))))) (hn : 0 ≤ nS ∧ nS ≤ 12) (hi : iB i) (hSc : 0 ≤ i ∧ i < nS → cS i.toNat = some a ∧ k < 3 ∧ st_S J a rp lp ep rf (G.2.2.2.1 k) r1 r2 r3 aa n) (hp : iB p) (hbad : ¬ ((0 ≤ i ∧ i < nS) ∧ 0 ≤ p ∧ p < 10) → Q (.inr "java/lang/IllegalArgumentException") J) (hst : ((0 ≤ i ∧ i < nS) ∧ 0 ≤ p ∧ p < 10) → ¬ k = 1 → Q (.inr "java/lang/IllegalStateException") J) (hvis : ((0 ≤ i ∧ i < nS) ∧ 0 ≤ p ∧ p < 10) → k = 1 → r3 = some e3 ∧ ∀ Q' : aw_O → aw_J → Prop, (P0 → Q' (.inl (some .null)) J) → (∀ c v, PD c v → Q' (.inl (some (.ref c))) J) → aw_W G mT_visibleDescriptor (d + 1 + 1 + 1) Q' 0 [some (.ref e3), some (.int (iI p)), none, none] [] J 0 0) (hP0 : P0 → Q (.inl (some (.int (iI (-1))))) J) (hgo : ((0 ≤ i ∧ i < nS) ∧ 0 ≤ p ∧ p < 10) → k = 1 → ∀ c v, PD c v → (∃ w, J c = some (.inr (2, [w, .int (iI v)]))) ∧ (∀ Q' : aw_O → aw_J → Prop, (∀ J', PN J' → Q' (.inr "java/util/NoSuchElementException") J') → (∀ J', PT J' → Q' (.inr "java/lang/UnsupportedOperationException") J') → (∀ w J', PV w J' → Q' (.inl (some (.ref w))) J') → aw_W G mT_typeFromScope (d + 1 + 1 + 1) Q' 0 [some (.ref x), some (.ref a), some (.int (iI v)), none] [] J mc ms)) (hPN : ∀ J', PN J' → Q (.inr "java/util/NoSuchElementException") J') (hPT : ∀ J', PT J' → Q (.inr "java/lang/UnsupportedOperationException") J') (hPV : ∀ ty J', PV ty J' → (∃ vs, J' a = some (.inr (6, vs))) ∧ ∃ (A B F : Prop) (cT' : Nat → Option Nat) (t1 : Nat) (J2 : aw_J), (∀ Q' : aw_O → aw_J → Prop, (A → Q' (.inl (some (.int (iI 1)))) J') → (¬ A → Q' (.inl (some (.int (iI 0)))) J') → aw_W G mS_hasApplied (d + 1 + 1 + 1) Q' 0 [some (.ref a), some (.ref ty), none] [] J' 0 0) ∧ (A → Q (.inl (some (.int (iI 0)))) J') ∧ (∃ aA' aS' nS' aL' nT' aO' aN', J' x = some (.inr (8, [aA', aS', nS', aL', .ref aT, nT', aO', aN']))) ∧ J' aT = some (.inl (G.2.2.1 6, 120, .inr (.inr (.inr (.inr cT'))))) ∧ cT' 1 = some t1 ∧ (∀ Q' : aw_O → aw_J → Prop, (B → Q' (.inl (some (.int (iI 1)))) J') → (¬ B → Q' (.inl (some (.int (iI 0)))) J') → aw_W G mT_isSubtype (d + 1 + 1 + 1) Q' 0 [some (.ref ty), some (.ref t1), none] [] J' 0 0) ∧ (¬ A → ¬ B → Q (.inl (some (.int (iI (-2))))) J') ∧ (∀ Q' : aw_O → aw_J → Prop, (F → Q' (.inl (some (.int (iI 0)))) J') → (¬ F → Q' (.inl (some (.int (iI 1)))) J2) → aw_W G mS_appendApplied (d + 1 + 1 + 1) Q' 0 [some (.ref a), some (.ref ty)] [] J' 0 0) ∧ (¬ A → B → F → Q (.inl (some (.int (iI (-3))))) J') ∧ (¬ A → B → ¬ F → Q (.inl (some (.int (iI 1)))) J2)) : aw_W G mT_apply (d + 1 + 1 + 1 + 1) Q 0 [some (.ref x), some (.int (iI i)), some (.int (iI p)), none, none, none] [] J kc ks := by
  first | refine aw_aload_n dT_apply_0 rfl ?_ | refine aw_aload_nQ dT_apply_0 rfl ?_ | refine aw_aload_nN dT_apply_0 rfl ?_
  refine aw_iload_n dT_apply_1 rfl ?_
  refine aw_callV1 (mc' := 1) (ms' := 6) (kc' := (kc - 1)) (ks' := (ks - 6)) dT_apply_2 cT_126 hT (Nat.le_of_ble_eq_true rfl) (Nat.le_of_ble_eq_true rfl) (by omega) (by omega) rfl ?_
  refine sp_scopeAt (by omega) (by omega) hT hSA hn hi (fun hr => ?_) (fun hr => ?_)
  · exact hbad (fun z => hr z.1)
  · obtain ⟨hc, hk3, hs⟩ := hSc hr
    rw [hc]
    first | refine aw_astore_n dT_apply_5 (by decide) rfl ?_ | refine aw_astore_nQ dT_apply_5 (by decide) rfl ?_ | refine aw_astore_nN dT_apply_5 (by decide) rfl ?_
    refine aw_iload_n dT_apply_6 rfl ?_
    refine ai_bipush dT_apply_7 (by decide +kernel) ?_
    refine aw_callS2 (mc' := 0) (ms' := 0) (kc' := (kc - 1)) (ks' := (ks - 6)) dT_apply_9 cT_80 (Nat.le_of_ble_eq_true rfl) (Nat.le_of_ble_eq_true rfl) (by omega) (by omega) rfl ?_
    refine sp_below hp (by decide) (fun hi9 => ?_) (fun hi9 => ?_)
    · refine ai_if_ne (tgt := 25) dT_apply_12 (by decide) (by omega) (fun _ => ?_) (fun hb12 => absurd hb12 (by decide))
      first | refine aw_aload_n dT_apply_25 rfl ?_ | refine aw_aload_nQ dT_apply_25 rfl ?_ | refine aw_aload_nN dT_apply_25 rfl ?_
      refine aw_callS1 (mc' := 1) (ms' := 6) (kc' := (kc - 2)) (ks' := (ks - 12)) dT_apply_26 cT_217 (Nat.le_of_ble_eq_true rfl) (Nat.le_of_ble_eq_true rfl) (by omega) (by omega) rfl ?_
      refine sp_requireLocked (by omega) (by omega) hk3 hs (fun hk1 => ?_) (fun hk1 => ?_)
      · obtain ⟨he3, hv2⟩ := hvis ⟨hr, by omega⟩ hk1
        subst he3
        first | refine aw_aload_n dT_apply_29 rfl ?_ | refine aw_aload_nQ dT_apply_29 rfl ?_ | refine aw_aload_nN dT_apply_29 rfl ?_
        refine aw_get dT_apply_30 fT_67 hs rfl ?_
        refine aw_iload_n dT_apply_33 rfl ?_
        refine aw_callS2 (mc' := 0) (ms' := 0) (kc' := (kc - 2)) (ks' := (ks - 12)) dT_apply_34 cT_257 (Nat.le_of_ble_eq_true rfl) (Nat.le_of_ble_eq_true rfl) (by omega) (by omega) rfl ?_
        refine hv2 _ (fun hp0 => ?_) (fun c v hpd => ?_)
        · refine aw_astoreN dT_apply_37 (by decide) rfl ?_
          refine aw_aloadN dT_apply_39 rfl ?_
          refine aw_ifnonnull (tgt := 46) (r := none) dT_apply_41 (by decide) (fun z => absurd rfl z) (fun _ => ?_)
          refine ai_iconst dT_apply_44 ?_
          refine aw_iret dT_apply_45 rfl ?_
          exact hP0 hp0
        · obtain ⟨⟨wd, hcd⟩, htf⟩ := hgo ⟨hr, by omega⟩ hk1 c v hpd
          refine aw_astore dT_apply_37 (by decide) rfl ?_
          refine aw_aload dT_apply_39 rfl ?_
          refine aw_ifnonnull (tgt := 46) (r := some c) dT_apply_41 (by decide) (fun _ => ?_) (fun hb41 => absurd hb41 (by simp))
          first | refine aw_aload_n dT_apply_46 rfl ?_ | refine aw_aload_nQ dT_apply_46 rfl ?_ | refine aw_aload_nN dT_apply_46 rfl ?_
          first | refine aw_aload_n dT_apply_47 rfl ?_ | refine aw_aload_nQ dT_apply_47 rfl ?_ | refine aw_aload_nN dT_apply_47 rfl ?_
          first | refine aw_aload dT_apply_48 rfl ?_ | refine aw_aloadQ dT_apply_48 rfl ?_ | refine aw_aloadN dT_apply_48 rfl ?_
          refine aw_get dT_apply_50 fT_261 hcd rfl ?_
          refine aw_callV2 (mc' := mc) (ms' := ms) (kc' := (kc - 2 - mc)) (ks' := (ks - 12 - ms)) dT_apply_53 cT_220 hT (Nat.le_of_ble_eq_true rfl) (Nat.le_of_ble_eq_true rfl) (by omega) (by omega) rfl ?_
          refine htf _ (fun J2 hp => ?_) (fun J2 hp => ?_) (fun w J2 hp => ?_)
          · exact hPN J2 hp
          · exact hPT J2 hp
          · obtain ⟨⟨vs, hJa⟩, A, B, F, cT', t1, J3, hA, qA, ⟨aA', aS', nS', aL', nT', aO', aN', hJx⟩, hJT, hc1, hB, qB, hF, qF, q1⟩ := hPV w J2 hp
            first | refine aw_astore dT_apply_56 (by decide) rfl ?_ | refine aw_astoreQ dT_apply_56 (by decide) rfl ?_ | refine aw_astoreN dT_apply_56 (by decide) rfl ?_
            first | refine aw_aload_n dT_apply_58 rfl ?_ | refine aw_aload_nQ dT_apply_58 rfl ?_ | refine aw_aload_nN dT_apply_58 rfl ?_
            first | refine aw_aload dT_apply_59 rfl ?_ | refine aw_aloadQ dT_apply_59 rfl ?_ | refine aw_aloadN dT_apply_59 rfl ?_
            refine aw_callVN1 (mc' := 0) (ms' := 0) (kc' := (kc - 2 - mc)) (ks' := (ks - 12 - ms)) dT_apply_61 cT_262 hJa (Nat.le_of_ble_eq_true rfl) (Nat.le_of_ble_eq_true rfl) (by omega) (by omega) ?_
            refine hA _ (fun ha => ?_) (fun ha => ?_)
            · refine ai_if_eq (tgt := 69) dT_apply_64 (by decide) (by omega) (fun hb64 => absurd hb64 (by decide)) (fun _ => ?_)
              refine ai_iconst dT_apply_67 ?_
              refine aw_iret dT_apply_68 rfl ?_
              exact qA ha
            · refine ai_if_eq (tgt := 69) dT_apply_64 (by decide) (by omega) (fun _ => ?_) (fun hb64 => absurd hb64 (by decide))
              first | refine aw_aload dT_apply_69 rfl ?_ | refine aw_aloadQ dT_apply_69 rfl ?_ | refine aw_aloadN dT_apply_69 rfl ?_
              first | refine aw_aload_n dT_apply_71 rfl ?_ | refine aw_aload_nQ dT_apply_71 rfl ?_ | refine aw_aload_nN dT_apply_71 rfl ?_
              refine aw_get dT_apply_72 fT_29 hJx rfl ?_
              refine ai_iconst dT_apply_75 ?_
              refine aw_aald dT_apply_76 rfl hJT (iI_in (by decide) (by decide) (by decide)) ?_
              rw [iI_cl (by decide), show (1 : Int).toNat = 1 from rfl, hc1]
              refine aw_callS2 (mc' := 0) (ms' := 0) (kc' := (kc - 2 - mc)) (ks' := (ks - 12 - ms)) dT_apply_77 cT_251 (Nat.le_of_ble_eq_true rfl) (Nat.le_of_ble_eq_true rfl) (by omega) (by omega) rfl ?_
              refine hB _ (fun hb => ?_) (fun hb => ?_)
              · refine ai_if_ne (tgt := 86) dT_apply_80 (by decide) (by omega) (fun _ => ?_) (fun hb80 => absurd hb80 (by decide))
                first | refine aw_aload_n dT_apply_86 rfl ?_ | refine aw_aload_nQ dT_apply_86 rfl ?_ | refine aw_aload_nN dT_apply_86 rfl ?_
                first | refine aw_aload dT_apply_87 rfl ?_ | refine aw_aloadQ dT_apply_87 rfl ?_ | refine aw_aloadN dT_apply_87 rfl ?_
                refine aw_callVN1 (mc' := 0) (ms' := 0) (kc' := (kc - 2 - mc)) (ks' := (ks - 12 - ms)) dT_apply_89 cT_266 hJa (Nat.le_of_ble_eq_true rfl) (Nat.le_of_ble_eq_true rfl) (by omega) (by omega) ?_
                refine hF _ (fun hf => ?_) (fun hf => ?_)
                · refine ai_if_eq (tgt := 99) dT_apply_92 (by decide) (by omega) (fun _ => ?_) (fun hb92 => absurd hb92 (by decide))
                  refine ai_bipush dT_apply_99 (by decide +kernel) ?_
                  refine aw_iret dT_apply_101 rfl ?_
                  first | exact q1 ha hb hf | exact qF ha hb hf
                · refine ai_if_eq (tgt := 99) dT_apply_92 (by decide) (by omega) (fun hb92 => absurd hb92 (by decide)) (fun _ => ?_)
                  refine ai_iconst dT_apply_95 ?_
                  refine aw_goto (tgt := 101) dT_apply_96 (by decide) ?_
                  refine aw_iret dT_apply_101 rfl ?_
                  first | exact q1 ha hb hf | exact qF ha hb hf
              · refine ai_if_ne (tgt := 86) dT_apply_80 (by decide) (by omega) (fun hb80 => absurd hb80 (by decide)) (fun _ => ?_)
                refine ai_bipush dT_apply_83 (by decide +kernel) ?_
                refine aw_iret dT_apply_85 rfl ?_
                exact qB ha hb
      · exact hst ⟨hr, by omega⟩ hk1
    · refine ai_if_ne (tgt := 25) dT_apply_12 (by decide) (by omega) (fun hb12 => absurd hb12 (by decide)) (fun _ => ?_)
      refine aw_throw t_255 rfl dT_apply_15 dT_apply_18 dT_apply_19 dT_apply_21 dT_apply_24 (Nat.le_of_ble_eq_true rfl) (by omega) (by omega) ?_
      exact hbad (fun z => by omega)

end ST27
