/-! release -/
section ST23
theorem sp_rel_1 {G : aw_G} {d : Nat} {Q : aw_O → aw_J → Prop} {J : aw_J} {kc ks : Nat} {x a lp ep aa e1 e2 e3 : Nat} {rp rf r1 r2 r3 : Option Nat} {n : Int} {x1 : Option Value} {st : Nat} {P3 : Int → aw_J → Prop} {P2 P1 : Int → Int → aw_J → Prop} (hx : ∃ vs, J x = some (.inr (8, vs))) (hS : st_S J a rp lp ep rf st r1 r2 r3 aa n) (hr : r1 = some e1 ∧ r2 = some e2 ∧ r3 = some e3) (h3 : (∀ Q' : aw_O → aw_J → Prop, (∀ g J', P3 g J' → Q' (.inl (some (.int (iI g)))) J') → aw_W G mT_letGo (d + 1) Q' 0 [some (.ref x), some (.ref e3), none, none] [] (aw_up J a (.inr (6, [va_rf rp, .ref lp, .ref ep, va_rf rf, .ref (G.2.2.2.1 2), va_rf r1, va_rf r2, va_rf r3, .ref aa, .int (iI n)]))) 0 0)) (h2 : ∀ g3 J2, P3 g3 J2 → (J2 a = some (.inr (6, [va_rf rp, .ref lp, .ref ep, va_rf rf, .ref (G.2.2.2.1 2), va_rf r1, va_rf r2, va_rf r3, .ref aa, .int (iI n)])) ∧ J2 x = J x) ∧ (∀ Q' : aw_O → aw_J → Prop, (∀ g J', P2 g3 g J' → Q' (.inl (some (.int (iI g)))) J') → aw_W G mT_letGo (d + 1) Q' 0 [some (.ref x), some (.ref e2), none, none] [] J2 0 0)) (h1 : ∀ g3 g2 J3, P2 g3 g2 J3 → (J3 a = some (.inr (6, [va_rf rp, .ref lp, .ref ep, va_rf rf, .ref (G.2.2.2.1 2), va_rf r1, va_rf r2, va_rf r3, .ref aa, .int (iI n)])) ∧ J3 x = J x) ∧ (∀ Q' : aw_O → aw_J → Prop, (∀ g J', P1 (g3 + g2) g J' → Q' (.inl (some (.int (iI g)))) J') → aw_W G mT_letGo (d + 1) Q' 0 [some (.ref x), some (.ref e1), none, none] [] J3 0 0)) (hq : ∀ g g1 J4, P1 g g1 J4 → Q (.inl (some (.int (iI (g + g1))))) J4) : aw_W G mT_release (d + 1 + 1) Q 66 [some (.ref x), x1, some (.ref a), none] [.int (iI 1)] J kc ks := by
  obtain ⟨rfl, rfl, rfl⟩ := hr
  obtain ⟨vx, hx⟩ := hx
  have xa : x ≠ a := aw_ne hx hS (fun h => by cases h)
  refine aw_istore_n dT_release_66 (by decide) rfl ?_
  first | refine aw_aload_n dT_release_67 rfl ?_ | refine aw_aload_nQ dT_release_67 rfl ?_ | refine aw_aload_nN dT_release_67 rfl ?_
  refine aw_gets (i := 2) dT_release_68 (by decide) wT_2_162 ?_
  refine aw_put dT_release_71 sT_60 hS rfl rfl (Nat.le_of_ble_eq_true rfl) ?_
  refine aw_iload_n dT_release_74 rfl ?_
  refine ai_if_ne (tgt := 80) dT_release_75 (by decide) (by decide) (fun _ => ?_) (fun z => absurd z (by decide))
  first | refine aw_aload_n dT_release_80 rfl ?_ | refine aw_aload_nQ dT_release_80 rfl ?_ | refine aw_aload_nN dT_release_80 rfl ?_
  first | refine aw_aload_n dT_release_81 rfl ?_ | refine aw_aload_nQ dT_release_81 rfl ?_ | refine aw_aload_nN dT_release_81 rfl ?_
  refine aw_get dT_release_82 fT_67 aw_up_s rfl ?_
  refine aw_callV1 (mc' := 0) (ms' := 0) (kc' := kc) (ks' := ks) dT_release_85 cT_203 ((aw_up_n xa).trans hx) (Nat.le_of_ble_eq_true rfl) (Nat.le_of_ble_eq_true rfl) (by omega) (by omega) rfl ?_
  refine h3 _ (fun g3 J2 hP3 => ?_)
  obtain ⟨hJ2, h2'⟩ := h2 g3 J2 hP3
  first | refine aw_aload_n dT_release_88 rfl ?_ | refine aw_aload_nQ dT_release_88 rfl ?_ | refine aw_aload_nN dT_release_88 rfl ?_
  first | refine aw_aload_n dT_release_89 rfl ?_ | refine aw_aload_nQ dT_release_89 rfl ?_ | refine aw_aload_nN dT_release_89 rfl ?_
  refine aw_get dT_release_90 fT_63 hJ2.1 rfl ?_
  refine aw_callV1 (mc' := 0) (ms' := 0) (kc' := kc) (ks' := ks) dT_release_93 cT_203 (hJ2.2.trans hx) (Nat.le_of_ble_eq_true rfl) (Nat.le_of_ble_eq_true rfl) (by omega) (by omega) rfl ?_
  refine h2' _ (fun g2 J3 hP2 => ?_)
  obtain ⟨hJ3, h1'⟩ := h1 g3 g2 J3 hP2
  refine ai_iadd dT_release_96 ?_
  first | refine aw_aload_n dT_release_97 rfl ?_ | refine aw_aload_nQ dT_release_97 rfl ?_ | refine aw_aload_nN dT_release_97 rfl ?_
  first | refine aw_aload_n dT_release_98 rfl ?_ | refine aw_aload_nQ dT_release_98 rfl ?_ | refine aw_aload_nN dT_release_98 rfl ?_
  refine aw_get dT_release_99 fT_185 hJ3.1 rfl ?_
  refine aw_callV1 (mc' := 0) (ms' := 0) (kc' := kc) (ks' := ks) dT_release_102 cT_203 (hJ3.2.trans hx) (Nat.le_of_ble_eq_true rfl) (Nat.le_of_ble_eq_true rfl) (by omega) (by omega) rfl ?_
  refine h1' _ (fun g1 J4 hP1 => ?_)
  refine ai_iadd dT_release_105 ?_
  refine aw_iret dT_release_106 rfl ?_
  exact hq _ g1 J4 hP1
theorem sp_rel_0 {G : aw_G} {d : Nat} {Q : aw_O → aw_J → Prop} {J : aw_J} {kc ks : Nat} {x a lp ep aa : Nat} {rp rf r1 r2 r3 : Option Nat} {n : Int} {x1 : Option Value} {st : Nat} (hS : st_S J a rp lp ep rf st r1 r2 r3 aa n) (hq : Q (.inl (some (.int (iI 0)))) (aw_up J a (.inr (6, [va_rf rp, .ref lp, .ref ep, va_rf rf, .ref (G.2.2.2.1 2), va_rf r1, va_rf r2, va_rf r3, .ref aa, .int (iI n)])))) : aw_W G mT_release d Q 66 [some (.ref x), x1, some (.ref a), none] [.int (iI 0)] J kc ks := by
  refine aw_istore_n dT_release_66 (by decide) rfl ?_
  first | refine aw_aload_n dT_release_67 rfl ?_ | refine aw_aload_nQ dT_release_67 rfl ?_ | refine aw_aload_nN dT_release_67 rfl ?_
  refine aw_gets (i := 2) dT_release_68 (by decide) wT_2_162 ?_
  refine aw_put dT_release_71 sT_60 hS rfl rfl (Nat.le_of_ble_eq_true rfl) ?_
  refine aw_iload_n dT_release_74 rfl ?_
  refine ai_if_ne (tgt := 80) dT_release_75 (by decide) (by decide) (fun z => absurd rfl z) (fun _ => ?_)
  refine ai_iconst dT_release_78 ?_
  refine aw_iret dT_release_79 rfl ?_
  exact hq
theorem sp_release {G : aw_G} {d : Nat} {Q : aw_O → aw_J → Prop} {J : aw_J} {kc ks : Nat} {x aA aS aL aT aO aN : Nat} {nS nT : Int} {cS : Nat → Option Nat} {Sc lp ep aa : Int → Nat} {k : Int → Nat} {rp rf r1 r2 r3 : Int → Option Nat} {na : Int → Int} {i : Int} {e1 e2 e3 : Nat} {P3 : Int → aw_J → Prop} {P2 P1 : Int → Int → aw_J → Prop} (hkc : 2 ≤ kc) (hks : 12 ≤ ks) (hT : st_T J x aA aS aL aT aO aN nS nT) (hSA : J aS = some (.inl (G.2.2.1 4, 12, .inr (.inr (.inr (.inr cS)))))) (hn : 0 ≤ nS ∧ nS ≤ 12) (hS : ∀ i, 0 ≤ i → i < nS → cS i.toNat = some (Sc i) ∧ k i < 3 ∧ st_S J (Sc i) (rp i) (lp i) (ep i) (rf i) (G.2.2.2.1 (k i)) (r1 i) (r2 i) (r3 i) (aa i) (na i)) (hi : iB i) (hbad : ¬ ((0 ≤ i ∧ i < nS) ∧ ¬ rp i = none) → Q (.inr "java/lang/IllegalArgumentException") J) (hst : ((0 ≤ i ∧ i < nS) ∧ ¬ rp i = none) → (k i = 2 ∨ (∃ j, 0 ≤ j ∧ j < nS ∧ rp j = some (Sc i) ∧ ¬ k j = 2)) → Q (.inr "java/lang/IllegalStateException") J) (hopen : ((0 ≤ i ∧ i < nS) ∧ ¬ rp i = none) → k i = 0 → ¬ (∃ j, 0 ≤ j ∧ j < nS ∧ rp j = some (Sc i) ∧ ¬ k j = 2) → Q (.inl (some (.int (iI 0)))) (aw_up J (Sc i) (.inr (6, [va_rf (rp i), .ref (lp i), .ref (ep i), va_rf (rf i), .ref (G.2.2.2.1 2), va_rf (r1 i), va_rf (r2 i), va_rf (r3 i), .ref (aa i), .int (iI (na i))])))) (hr : ((0 ≤ i ∧ i < nS) ∧ ¬ rp i = none) → k i = 1 → r1 i = some e1 ∧ r2 i = some e2 ∧ r3 i = some e3) (h3 : ((0 ≤ i ∧ i < nS) ∧ ¬ rp i = none) → k i = 1 → ¬ (∃ j, 0 ≤ j ∧ j < nS ∧ rp j = some (Sc i) ∧ ¬ k j = 2) → (∀ Q' : aw_O → aw_J → Prop, (∀ g J', P3 g J' → Q' (.inl (some (.int (iI g)))) J') → aw_W G mT_letGo (d + 1) Q' 0 [some (.ref x), some (.ref e3), none, none] [] (aw_up J (Sc i) (.inr (6, [va_rf (rp i), .ref (lp i), .ref (ep i), va_rf (rf i), .ref (G.2.2.2.1 2), va_rf (r1 i), va_rf (r2 i), va_rf (r3 i), .ref (aa i), .int (iI (na i))]))) 0 0)) (h2 : ∀ g3 J2, P3 g3 J2 → (J2 (Sc i) = some (.inr (6, [va_rf (rp i), .ref (lp i), .ref (ep i), va_rf (rf i), .ref (G.2.2.2.1 2), va_rf (r1 i), va_rf (r2 i), va_rf (r3 i), .ref (aa i), .int (iI (na i))])) ∧ J2 x = J x) ∧ (∀ Q' : aw_O → aw_J → Prop, (∀ g J', P2 g3 g J' → Q' (.inl (some (.int (iI g)))) J') → aw_W G mT_letGo (d + 1) Q' 0 [some (.ref x), some (.ref e2), none, none] [] J2 0 0)) (h1 : ∀ g3 g2 J3, P2 g3 g2 J3 → (J3 (Sc i) = some (.inr (6, [va_rf (rp i), .ref (lp i), .ref (ep i), va_rf (rf i), .ref (G.2.2.2.1 2), va_rf (r1 i), va_rf (r2 i), va_rf (r3 i), .ref (aa i), .int (iI (na i))])) ∧ J3 x = J x) ∧ (∀ Q' : aw_O → aw_J → Prop, (∀ g J', P1 (g3 + g2) g J' → Q' (.inl (some (.int (iI g)))) J') → aw_W G mT_letGo (d + 1) Q' 0 [some (.ref x), some (.ref e1), none, none] [] J3 0 0)) (hq : ∀ g g1 J4, P1 g g1 J4 → Q (.inl (some (.int (iI (g + g1))))) J4) : aw_W G mT_release (d + 1 + 1) Q 0 [some (.ref x), some (.int (iI i)), none, none] [] J kc ks := by
  refine aw_ens (fun he => ?_)
  first | refine aw_aload_n dT_release_0 rfl ?_ | refine aw_aload_nQ dT_release_0 rfl ?_ | refine aw_aload_nN dT_release_0 rfl ?_
  refine aw_iload_n dT_release_1 rfl ?_
  refine aw_callV1 (mc' := 1) (ms' := 6) (kc' := (kc - 1)) (ks' := (ks - 6)) dT_release_2 cT_126 hT (Nat.le_of_ble_eq_true rfl) (Nat.le_of_ble_eq_true rfl) (by omega) (by omega) rfl ?_
  refine sp_scopeAt (by omega) (by omega) hT hSA hn hi (fun hr0 => ?_) (fun hr0 => ?_)
  · exact hbad (fun z => hr0 z.1)
  · obtain ⟨hc, hk3, hs⟩ := hS i hr0.1 hr0.2
    rw [hc]
    first | refine aw_astore_n dT_release_5 (by decide) rfl ?_ | refine aw_astore_nQ dT_release_5 (by decide) rfl ?_ | refine aw_astore_nN dT_release_5 (by decide) rfl ?_
    first | refine aw_aload_n dT_release_6 rfl ?_ | refine aw_aload_nQ dT_release_6 rfl ?_ | refine aw_aload_nN dT_release_6 rfl ?_
    refine aw_get dT_release_7 fT_166 hs rfl ?_
    refine aw_ifnonnull (tgt := 23) (r := rp i) dT_release_10 (by decide) (fun hb10 => ?_) (fun hb10 => ?_)
    · have hg : (0 ≤ i ∧ i < nS) ∧ ¬ rp i = none := ⟨hr0, hb10⟩
      first | refine aw_aload_n dT_release_23 rfl ?_ | refine aw_aload_nQ dT_release_23 rfl ?_ | refine aw_aload_nN dT_release_23 rfl ?_
      refine aw_get dT_release_24 fT_60 hs rfl ?_
      refine aw_gets (i := 2) dT_release_27 (by decide) wT_2_162 ?_
      refine aw_acmp_eq (tgt := 41) (x := some (G.2.2.2.1 (k i))) (y := some (G.2.2.2.1 2)) dT_release_30 (by decide) (fun hb30 => ?_) (fun hb30 => ?_)
      · refine aw_throw t_201 rfl dT_release_41 dT_release_44 dT_release_45 dT_release_47 dT_release_50 (Nat.le_of_ble_eq_true rfl) (by omega) (by omega) ?_
        first
          | exact hst hg (Or.inl (he _ 2 hk3 (by decide) (Option.some.inj hb30)))
          | exact hst hg (Or.inr hx)
      · first | refine aw_aload_n dT_release_33 rfl ?_ | refine aw_aload_nQ dT_release_33 rfl ?_ | refine aw_aload_nN dT_release_33 rfl ?_
        first | refine aw_aload_n dT_release_34 rfl ?_ | refine aw_aload_nQ dT_release_34 rfl ?_ | refine aw_aload_nN dT_release_34 rfl ?_
        refine aw_callV1 (mc' := 0) (ms' := 0) (kc' := (kc - 1)) (ks' := (ks - 6)) dT_release_35 cT_197 hT (Nat.le_of_ble_eq_true rfl) (Nat.le_of_ble_eq_true rfl) (by omega) (by omega) rfl ?_
        refine sp_childLeft hT hSA hn hS (fun hx => ?_) (fun hx => ?_)
        · refine ai_if_eq (tgt := 51) dT_release_38 (by decide) (by omega) (fun hb38 => absurd hb38 (by decide)) (fun _ => ?_)
          refine aw_throw t_201 rfl dT_release_41 dT_release_44 dT_release_45 dT_release_47 dT_release_50 (Nat.le_of_ble_eq_true rfl) (by omega) (by omega) ?_
          first
            | exact hst hg (Or.inl (he _ 2 hk3 (by decide) (Option.some.inj hb30)))
            | exact hst hg (Or.inr hx)
        · refine ai_if_eq (tgt := 51) dT_release_38 (by decide) (by omega) (fun _ => ?_) (fun hb38 => absurd hb38 (by decide))
          first | refine aw_aload_n dT_release_51 rfl ?_ | refine aw_aload_nQ dT_release_51 rfl ?_ | refine aw_aload_nN dT_release_51 rfl ?_
          refine aw_get dT_release_52 fT_60 hs rfl ?_
          refine aw_gets (i := 1) dT_release_55 (by decide) wT_1_183 ?_
          refine aw_acmp_ne (tgt := 65) (x := some (G.2.2.2.1 (k i))) (y := some (G.2.2.2.1 1)) dT_release_58 (by decide) (fun hb58 => ?_) (fun hb58 => ?_)
          · refine ai_iconst dT_release_65 ?_
            first
              | (have hk1 := he _ 1 hk3 (by decide) (Option.some.inj hb58)
                 exact sp_rel_1 ⟨_, hT⟩ hs (hr hg hk1) (h3 hg hk1 hx) h2 h1 hq)
              | (have hk1 : ¬ k i = 1 := fun z => hb58 (by rw [z])
                 have hk2 : ¬ k i = 2 := fun z => hb30 (by rw [z])
                 exact sp_rel_0 hs (hopen hg (by omega) hx))
          · refine ai_iconst dT_release_61 ?_
            refine aw_goto (tgt := 66) dT_release_62 (by decide) ?_
            first
              | (have hk1 := he _ 1 hk3 (by decide) (Option.some.inj hb58)
                 exact sp_rel_1 ⟨_, hT⟩ hs (hr hg hk1) (h3 hg hk1 hx) h2 h1 hq)
              | (have hk1 : ¬ k i = 1 := fun z => hb58 (by rw [z])
                 have hk2 : ¬ k i = 2 := fun z => hb30 (by rw [z])
                 exact sp_rel_0 hs (hopen hg (by omega) hx))
    · refine aw_throw t_195 rfl dT_release_13 dT_release_16 dT_release_17 dT_release_19 dT_release_22 (Nat.le_of_ble_eq_true rfl) (by omega) (by omega) ?_
      exact hbad (fun z => z.2 hb10)

end ST23
