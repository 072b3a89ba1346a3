/-! child; letGo -/
section ST22
theorem sp_kid {G : aw_G} {d : Nat} {Q : aw_O → aw_J → Prop} {J : aw_J} {kc ks : Nat} {x aA aS aL aT aO aN : Nat} {nS nT : Int} {cS : Nat → Option Nat} {a lp ep aa k : Nat} {rp rf r1 r2 r3 : Option Nat} {n i : Int} (hkc : 7 ≤ kc) (hks : 40 ≤ ks) (hT : st_T J x aA aS aL aT aO aN nS nT) (hSA : J aS = some (.inl (G.2.2.1 4, 12, .inr (.inr (.inr (.inr cS)))))) (hn : 0 ≤ nS ∧ nS ≤ 12) (hi : iB i) (hSc : 0 ≤ i ∧ i < nS → cS i.toNat = some a ∧ k < 3 ∧ st_S J a rp lp ep rf (G.2.2.2.1 k) r1 r2 r3 aa n) (hbad : ¬ ((0 ≤ i ∧ i < nS) ∧ ¬ k = 2) → Q (.inr "java/lang/IllegalArgumentException") J) (hfull : ((0 ≤ i ∧ i < nS) ∧ ¬ k = 2) → nS = 12 → Q (.inr "java/lang/IllegalStateException") J) (hok : ((0 ≤ i ∧ i < nS) ∧ ¬ k = 2) → nS < 12 → ∀ c p1 q1 p2 q2 ab J', (J c = none ∧ J p1 = none ∧ J q1 = none ∧ J p2 = none ∧ J q2 = none ∧ J ab = none) → (p1 ≠ p2 ∧ q1 ≠ q2) → st_S J' c (some a) p1 p2 none (G.2.2.2.1 0) none none none ab 0 → st_P G J' p1 q1 0 (fun _ => 0) → st_P G J' p2 q2 0 (fun _ => 0) → J' ab = some (.inl (G.2.2.1 6, 8, .inr (.inr (.inr (.inr (fun _ => none)))))) → J' aS = some (.inl (G.2.2.1 4, 12, .inr (.inr (.inr (.inr (va_up cS nS.toNat (some c))))))) → st_T J' x aA aS aL aT aO aN (nS + 1) nT → (∀ b v, J b = some v → b ≠ aS → b ≠ x → J' b = some v) → Q (.inl (some (.int (iI (nS + 1 - 1))))) J') : aw_W G mT_child (d + 3) Q 0 [some (.ref x), some (.int (iI i)), none] [] J kc ks := by
  refine aw_ens (fun he => ?_)
  first | refine aw_aload_n dT_child_0 rfl ?_ | refine aw_aload_nQ dT_child_0 rfl ?_ | refine aw_aload_nN dT_child_0 rfl ?_
  refine aw_iload_n dT_child_1 rfl ?_
  refine aw_callV1 (mc' := 1) (ms' := 6) (kc' := (kc - 1)) (ks' := (ks - 6)) dT_child_2 cT_126 hT (Nat.le_of_ble_eq_true rfl) (Nat.le_of_ble_eq_true rfl) (by omega) (by omega) rfl ?_
  refine sp_scopeAt (by omega) (by omega) hT hSA hn hi (fun hr => ?_) (fun hr => ?_)
  · exact hbad (fun z => hr z.1)
  · obtain ⟨hc, hk3, hs⟩ := hSc hr
    rw [hc]
    first | refine aw_astore_n dT_child_5 (by decide) rfl ?_ | refine aw_astore_nQ dT_child_5 (by decide) rfl ?_ | refine aw_astore_nN dT_child_5 (by decide) rfl ?_
    first | refine aw_aload_n dT_child_6 rfl ?_ | refine aw_aload_nQ dT_child_6 rfl ?_ | refine aw_aload_nN dT_child_6 rfl ?_
    refine aw_get dT_child_7 fT_60 hs rfl ?_
    refine aw_gets (i := 2) dT_child_10 (by decide) wT_2_162 ?_
    refine aw_acmp_ne (tgt := 26) (x := some (G.2.2.2.1 k)) (y := some (G.2.2.2.1 2)) dT_child_13 (by decide) (fun hb13 => ?_) (fun hb13 => ?_)
    · first | refine aw_aload_n dT_child_26 rfl ?_ | refine aw_aload_nQ dT_child_26 rfl ?_ | refine aw_aload_nN dT_child_26 rfl ?_
      refine aw_get dT_child_27 fT_73 hT rfl ?_
      refine ai_bipush dT_child_30 (by decide +kernel) ?_
      refine ai_icmp_lt (tgt := 45) dT_child_32 (by decide) (by omega) (by omega) (fun hb32 => ?_) (fun hb32 => ?_)
      · first | refine aw_aload_n dT_child_45 rfl ?_ | refine aw_aload_nQ dT_child_45 rfl ?_ | refine aw_aload_nN dT_child_45 rfl ?_
        refine aw_get dT_child_46 fT_17 hT rfl ?_
        first | refine aw_aload_n dT_child_49 rfl ?_ | refine aw_aload_nQ dT_child_49 rfl ?_ | refine aw_aload_nN dT_child_49 rfl ?_
        refine aw_get dT_child_50 fT_73 hT rfl ?_
        refine aw_new (kc' := kc - 2) (ks' := ks - 16) dT_child_53 nT_15 (by omega) (by omega) (fun c hc0 => ?_)
        refine aw_dup dT_child_56 rfl ?_
        first | refine aw_aload_n dT_child_57 rfl ?_ | refine aw_aload_nQ dT_child_57 rfl ?_ | refine aw_aload_nN dT_child_57 rfl ?_
        refine aw_callIN1 (mc' := 5) (ms' := 20) (kc' := (kc - 7)) (ks' := (ks - 36)) dT_child_58 cT_51 (Nat.le_of_ble_eq_true rfl) (Nat.le_of_ble_eq_true rfl) (by omega) (by omega) ?_
        refine sp_Sinit (rp := some a) (by omega) (by omega) aw_up_s (fun p1 q1 p2 q2 ab J1 hf hne hS hP1 hP2 hab hb => ?_)
        have g : ∀ b v, J b = some v → aw_up J c (.inr (6, [.null, .null, .null, .null, .null, .null, .null, .null, .null, .int 0])) b = some v := fun b v h => (aw_up_n (aw_nf h hc0)).trans h
        have f : ∀ b v, J b = some v → J1 b = some v := fun b v h => (hb b (aw_nf h hc0) (aw_nf (g b v h) hf.1) (aw_nf (g b v h) hf.2.1) (aw_nf (g b v h) hf.2.2.1) (aw_nf (g b v h) hf.2.2.2.1) (aw_nf (g b v h) hf.2.2.2.2)).trans (g b v h)
        have n0 : ∀ b, aw_up J c (.inr (6, [.null, .null, .null, .null, .null, .null, .null, .null, .null, .int 0])) b = none → J b = none := fun b h => by
          unfold aw_up at h
          split at h
          · cases h
          · exact h
        refine aw_aast dT_child_61 rfl rfl (f _ _ hSA) hS (iI_in (by omega) (by omega) (by omega)) ?_
        rw [iI_cl (by omega)]
        have xa : x ≠ aS := aw_ne hT hSA (fun h => by cases h)
        first | refine aw_aload_n dT_child_62 rfl ?_ | refine aw_aload_nQ dT_child_62 rfl ?_ | refine aw_aload_nN dT_child_62 rfl ?_
        refine aw_dup dT_child_63 rfl ?_
        refine aw_get dT_child_64 fT_73 ((aw_up_n xa).trans (f _ _ hT)) rfl ?_
        refine ai_iconst dT_child_67 ?_
        refine ai_iadd dT_child_68 ?_
        refine aw_put dT_child_69 sT_73 ((aw_up_n xa).trans (f _ _ hT)) rfl rfl (Nat.le_of_ble_eq_true rfl) ?_
        first | refine aw_aload_n dT_child_72 rfl ?_ | refine aw_aload_nQ dT_child_72 rfl ?_ | refine aw_aload_nN dT_child_72 rfl ?_
        refine aw_get dT_child_73 fT_73 aw_up_s rfl ?_
        refine ai_iconst dT_child_76 ?_
        refine ai_isub dT_child_77 ?_
        refine aw_iret dT_child_78 rfl ?_
        have m0 := n0 _ hf.1
        have m1 := n0 _ hf.2.1
        have m2 := n0 _ hf.2.2.1
        have m3 := n0 _ hf.2.2.2.1
        have m4 := n0 _ hf.2.2.2.2
        have k : ∀ b, J b = none → aw_up (aw_up J1 aS (.inl (G.2.2.1 4, 12, .inr (.inr (.inr (.inr (va_up cS nS.toNat (some c)))))))) x (.inr (8, [.ref aA, .ref aS, .int (iI (nS + 1)), .ref aL, .ref aT, .int (iI nT), .ref aO, .ref aN])) b = J1 b := fun b h => (aw_up_n (fun e => aw_nf hT h e.symm)).trans (aw_up_n (fun e => aw_nf hSA h e.symm))
        exact hok ⟨hr, fun z => hb13 (by rw [z])⟩ (by omega) c p1 q1 p2 q2 ab _ ⟨hc0, m0, m1, m2, m3, m4⟩ hne ((k c hc0).trans hS) ⟨(k _ m0).trans hP1.1, (k _ m1).trans hP1.2.1, hP1.2.2⟩ ⟨(k _ m2).trans hP2.1, (k _ m3).trans hP2.2.1, hP2.2.2⟩ ((k _ m4).trans hab) ((aw_up_n (fun e => xa e.symm)).trans aw_up_s) aw_up_s (fun b v h h1 h2 => (aw_up_n h2).trans ((aw_up_n h1).trans (f b v h)))
      · refine aw_throw t_135 rfl dT_child_35 dT_child_38 dT_child_39 dT_child_41 dT_child_44 (Nat.le_of_ble_eq_true rfl) (by omega) (by omega) ?_
        exact hfull ⟨hr, fun z => hb13 (by rw [z])⟩ (by omega)
    · refine aw_throw t_133 rfl dT_child_16 dT_child_19 dT_child_20 dT_child_22 dT_child_25 (Nat.le_of_ble_eq_true rfl) (by omega) (by omega) ?_
      exact hbad (fun z => z.2 (he _ 2 hk3 (by decide) (Option.some.inj hb13)))

theorem sp_letGo_0 {G : aw_G} {d : Nat} {Q : aw_O → aw_J → Prop} {J : aw_J} {kc ks : Nat} {x a : Nat} (k : aw_W G mT_letGo d Q 4 [some (.ref x), some (.ref a), some (.int (iI 0)), some (.ref a)] [] J kc ks) : aw_W G mT_letGo d Q 0 [some (.ref x), some (.ref a), none, none] [] J kc ks := by
  refine ai_iconst dT_letGo_0 ?_
  refine aw_istore_n dT_letGo_1 (by decide) rfl ?_
  refine aw_aload_n dT_letGo_2 rfl ?_
  refine aw_astore_n dT_letGo_3 (by decide) rfl ?_
  exact k

theorem sp_letGo_s {G : aw_G} {d : Nat} {Q : aw_O → aw_J → Prop} {J : aw_J} {kc ks : Nat} {x aA aS aL aT aO aN : Nat} {nS nT : Int} {cL : Nat → Option Nat} {a ca : Nat} {l kd h dc g : Int} {rp rf : Option Nat} {a0 : Nat} (hT : st_T J x aA aS aL aT aO aN nS nT) (hLA : J aL = some (.inl (G.2.2.1 5, 41, .inr (.inr (.inr (.inr cL)))))) (hL : st_L J a l kd rp ca rf h dc 0) (hl : 0 ≤ l ∧ l ≤ 40) (hh : iB (h - 1)) (hpos : 0 < h - 1 → Q (.inl (some (.int (iI g)))) (aw_up J a (.inr (4, [.int (iI l), .int (iI kd), va_rf rp, .ref ca, va_rf rf, .int (iI (h - 1)), .int (iI dc), .int (iI 0)])))) (hgo : ¬ 0 < h - 1 → aw_W G mT_letGo d Q 4 [some (.ref x), some (.ref a0), some (.int (iI (g + 1))), some (va_rf rp)] [] (aw_up (aw_up J a (.inr (4, [.int (iI l), .int (iI kd), va_rf rp, .ref ca, va_rf rf, .int (iI (h - 1)), .int (iI dc), .int (iI 1)]))) aL (.inl (G.2.2.1 5, 41, .inr (.inr (.inr (.inr (va_up cL l.toNat none))))))) kc ks) : aw_W G mT_letGo d Q 4 [some (.ref x), some (.ref a0), some (.int (iI g)), some (.ref a)] [] J kc ks := by
  refine aw_aload_n dT_letGo_4 rfl ?_
  refine aw_ifnull (tgt := 54) (r := some a) dT_letGo_5 (by decide) (fun hb5 => absurd hb5 (by simp)) (fun _ => ?_)
  first | refine aw_aload_n dT_letGo_8 rfl ?_ | refine aw_aload_nQ dT_letGo_8 rfl ?_ | refine aw_aload_nN dT_letGo_8 rfl ?_
  refine aw_dup dT_letGo_9 rfl ?_
  refine aw_get dT_letGo_10 fT_70 hL rfl ?_
  refine ai_iconst dT_letGo_13 ?_
  refine ai_isub dT_letGo_14 ?_
  refine aw_put dT_letGo_15 sT_70 hL rfl rfl (Nat.le_of_ble_eq_true rfl) ?_
  first | refine aw_aload_n dT_letGo_18 rfl ?_ | refine aw_aload_nQ dT_letGo_18 rfl ?_ | refine aw_aload_nN dT_letGo_18 rfl ?_
  refine aw_get dT_letGo_19 fT_70 aw_up_s rfl ?_
  refine ai_if_le (tgt := 28) dT_letGo_22 (by decide) hh (fun hb22 => ?_) (fun hb22 => ?_)
  · have xa : x ≠ a := aw_ne hT hL (fun h => by cases h)
    have la : aL ≠ a := aw_ne hLA hL (fun h => by cases h)
    first | refine aw_aload_n dT_letGo_28 rfl ?_ | refine aw_aload_nQ dT_letGo_28 rfl ?_ | refine aw_aload_nN dT_letGo_28 rfl ?_
    refine ai_iconst dT_letGo_29 ?_
    refine aw_put dT_letGo_30 sT_235 aw_up_s (by decide +kernel) (by decide +kernel) (Nat.le_of_ble_eq_true rfl) ?_
    rw [aw_uu]
    first | refine aw_aload_n dT_letGo_33 rfl ?_ | refine aw_aload_nQ dT_letGo_33 rfl ?_ | refine aw_aload_nN dT_letGo_33 rfl ?_
    refine aw_get dT_letGo_34 fT_23 ((aw_up_n xa).trans hT) rfl ?_
    first | refine aw_aload_n dT_letGo_37 rfl ?_ | refine aw_aload_nQ dT_letGo_37 rfl ?_ | refine aw_aload_nN dT_letGo_37 rfl ?_
    refine aw_get dT_letGo_38 fT_192 aw_up_s rfl ?_
    refine aw_null dT_letGo_41 ?_
    refine aw_aastN dT_letGo_42 rfl ((aw_up_n la).trans hLA) (iI_in (by omega) (by omega) (by omega)) ?_
    rw [iI_cl (by omega)]
    refine ai_iinc dT_letGo_43 rfl (by decide) rfl ?_
    first | refine aw_aload_n dT_letGo_46 rfl ?_ | refine aw_aload_nQ dT_letGo_46 rfl ?_ | refine aw_aload_nN dT_letGo_46 rfl ?_
    refine aw_get dT_letGo_47 fT_210 ((aw_up_n (fun e => la e.symm)).trans aw_up_s) rfl ?_
    first | refine aw_astore_n dT_letGo_50 (by decide) rfl ?_ | refine aw_astore_nQ dT_letGo_50 (by decide) rfl ?_ | refine aw_astore_nN dT_letGo_50 (by decide) rfl ?_
    refine aw_goto (tgt := 4) dT_letGo_51 (by decide) ?_
    exact hgo (by omega)
  · refine aw_goto (tgt := 54) dT_letGo_25 (by decide) ?_
    refine aw_iload_n dT_letGo_54 rfl ?_
    refine aw_iret dT_letGo_55 rfl ?_
    exact hpos (by omega)
end ST22
