/-! lock -/
section ST25
theorem sp_lock_2 {G : aw_G} {d : Nat} {Q : aw_O → aw_J → Prop} {J : aw_J} {kc ks : Nat} {a e u l lp ep aa c1 c2 c3 : Nat} {rp rf p1 p2 p3 f1 f2 f3 : Option Nat} {n n1 n2 n3 k1 k2 k3 h1 h2 h3 d1 d2 d3 g1 g2 g3 : Int} {x0 x1 x3 : Option Value} (hS : J a = some (.inr (6, [va_rf rp, .ref lp, .ref ep, va_rf rf, .ref (G.2.2.2.1 0), .ref e, .ref u, .ref l, .ref aa, .int (iI n)]))) (e1 : J e = some (.inr (4, [.int (iI n1), .int (iI k1), va_rf p1, .ref c1, va_rf f1, .int (iI (h1)), .int (iI d1), .int (iI g1)]))) (e2 : (aw_up J e (.inr (4, [.int (iI n1), .int (iI k1), va_rf p1, .ref c1, va_rf f1, .int (iI (h1 + 1)), .int (iI d1), .int (iI g1)]))) u = some (.inr (4, [.int (iI n2), .int (iI k2), va_rf p2, .ref c2, va_rf f2, .int (iI (h2)), .int (iI d2), .int (iI g2)]))) (e3 : (aw_up (aw_up J e (.inr (4, [.int (iI n1), .int (iI k1), va_rf p1, .ref c1, va_rf f1, .int (iI (h1 + 1)), .int (iI d1), .int (iI g1)]))) u (.inr (4, [.int (iI n2), .int (iI k2), va_rf p2, .ref c2, va_rf f2, .int (iI (h2 + 1)), .int (iI d2), .int (iI g2)]))) l = some (.inr (4, [.int (iI n3), .int (iI k3), va_rf p3, .ref c3, va_rf f3, .int (iI (h3)), .int (iI d3), .int (iI g3)]))) (hq : Q (.inl (some (.int (iI n3)))) (aw_up (aw_up (aw_up (aw_up J e (.inr (4, [.int (iI n1), .int (iI k1), va_rf p1, .ref c1, va_rf f1, .int (iI (h1 + 1)), .int (iI d1), .int (iI g1)]))) u (.inr (4, [.int (iI n2), .int (iI k2), va_rf p2, .ref c2, va_rf f2, .int (iI (h2 + 1)), .int (iI d2), .int (iI g2)]))) l (.inr (4, [.int (iI n3), .int (iI k3), va_rf p3, .ref c3, va_rf f3, .int (iI (h3 + 1)), .int (iI d3), .int (iI g3)]))) a (.inr (6, [va_rf rp, .ref lp, .ref ep, va_rf rf, .ref (G.2.2.2.1 1), .ref e, .ref u, .ref l, .ref aa, .int (iI n)])))) : aw_W G mT_lock d Q 105 [x0, x1, some (.ref a), x3] [] J kc ks := by
  first | refine aw_aload_n dT_lock_105 rfl ?_ | refine aw_aload_nQ dT_lock_105 rfl ?_ | refine aw_aload_nN dT_lock_105 rfl ?_
  refine aw_get dT_lock_106 fT_185 hS rfl ?_
  refine aw_dup dT_lock_109 rfl ?_
  refine aw_get dT_lock_110 fT_70 e1 rfl ?_
  refine ai_iconst dT_lock_113 ?_
  refine ai_iadd dT_lock_114 ?_
  refine aw_put dT_lock_115 sT_70 e1 rfl rfl (Nat.le_of_ble_eq_true rfl) ?_
  have ae : a ≠ e := aw_ne hS e1 (fun h => by cases h)
  have hS1 := (aw_up_n (e := .inr (4, [.int (iI n1), .int (iI k1), va_rf p1, .ref c1, va_rf f1, .int (iI (h1 + 1)), .int (iI d1), .int (iI g1)])) ae).trans hS
  first | refine aw_aload_n dT_lock_118 rfl ?_ | refine aw_aload_nQ dT_lock_118 rfl ?_ | refine aw_aload_nN dT_lock_118 rfl ?_
  refine aw_get dT_lock_119 fT_63 hS1 rfl ?_
  refine aw_dup dT_lock_122 rfl ?_
  refine aw_get dT_lock_123 fT_70 e2 rfl ?_
  refine ai_iconst dT_lock_126 ?_
  refine ai_iadd dT_lock_127 ?_
  refine aw_put dT_lock_128 sT_70 e2 rfl rfl (Nat.le_of_ble_eq_true rfl) ?_
  have au : a ≠ u := aw_ne hS1 e2 (fun h => by cases h)
  have hS2 := (aw_up_n (e := .inr (4, [.int (iI n2), .int (iI k2), va_rf p2, .ref c2, va_rf f2, .int (iI (h2 + 1)), .int (iI d2), .int (iI g2)])) au).trans hS1
  first | refine aw_aload_n dT_lock_131 rfl ?_ | refine aw_aload_nQ dT_lock_131 rfl ?_ | refine aw_aload_nN dT_lock_131 rfl ?_
  refine aw_get dT_lock_132 fT_67 hS2 rfl ?_
  refine aw_dup dT_lock_135 rfl ?_
  refine aw_get dT_lock_136 fT_70 e3 rfl ?_
  refine ai_iconst dT_lock_139 ?_
  refine ai_iadd dT_lock_140 ?_
  refine aw_put dT_lock_141 sT_70 e3 rfl rfl (Nat.le_of_ble_eq_true rfl) ?_
  have al : a ≠ l := aw_ne hS2 e3 (fun h => by cases h)
  have hS3 := (aw_up_n (e := .inr (4, [.int (iI n3), .int (iI k3), va_rf p3, .ref c3, va_rf f3, .int (iI (h3 + 1)), .int (iI d3), .int (iI g3)])) al).trans hS2
  first | refine aw_aload_n dT_lock_144 rfl ?_ | refine aw_aload_nQ dT_lock_144 rfl ?_ | refine aw_aload_nN dT_lock_144 rfl ?_
  refine aw_gets (i := 1) dT_lock_145 (by decide) wT_1_183 ?_
  refine aw_put dT_lock_148 sT_60 hS3 rfl rfl (Nat.le_of_ble_eq_true rfl) ?_
  first | refine aw_aload_n dT_lock_151 rfl ?_ | refine aw_aload_nQ dT_lock_151 rfl ?_ | refine aw_aload_nN dT_lock_151 rfl ?_
  refine aw_get dT_lock_152 fT_67 aw_up_s rfl ?_
  refine aw_get dT_lock_155 fT_192 ((aw_up_n (fun z => al z.symm)).trans aw_up_s) rfl ?_
  refine aw_iret dT_lock_158 rfl ?_
  exact hq
theorem sp_lock_1 {G : aw_G} {d : Nat} {Q : aw_O → aw_J → Prop} {J : aw_J} {kc ks : Nat} {x aA aS aL aT aO aN : Nat} {nS nT : Int} {cS : Nat → Option Nat} {a lp ep aa k : Nat} {rp rf r1 r2 r3 : Option Nat} {n i : Int} {b lpb epb aab kb pe : Nat} {rpb rfb r1b r2b r3b : Option Nat} {nb : Int} {cL : Nat → Option Nat} {f : Int → Int} {PD : Nat → aw_J → Prop} {PF : Nat → Nat → aw_J → Prop} {PE : Nat → Nat → Nat → aw_J → Prop} (hkc : 33 ≤ kc) (hks : 176 ≤ ks) (hT : st_T J x aA aS aL aT aO aN nS nT) (hSA : J aS = some (.inl (G.2.2.1 4, 12, .inr (.inr (.inr (.inr cS)))))) (hn : 0 ≤ nS ∧ nS ≤ 12) (hi : iB i) (hSc : 0 ≤ i ∧ i < nS → cS i.toNat = some a ∧ k < 3 ∧ st_S J a rp lp ep rf (G.2.2.2.1 k) r1 r2 r3 aa n) (hrp : 0 ≤ i ∧ i < nS → k = 0 → rp = some b ∧ kb < 3 ∧ st_S J b rpb lpb epb rfb (G.2.2.2.1 kb) r1b r2b r3b aab nb) (hLA : J aL = some (.inl (G.2.2.1 5, 41, .inr (.inr (.inr (.inr cL)))))) (hcl : ∀ l, 1 ≤ l → l ≤ 40 → (cL l.toNat = none ↔ f l = 0)) (hbad : ¬ (0 ≤ i ∧ i < nS) → Q (.inr "java/lang/IllegalArgumentException") J) (hst : 0 ≤ i ∧ i < nS → ¬ (k = 0 ∧ kb = 1) → Q (.inr "java/lang/IllegalStateException") J) (hfew : 0 ≤ i ∧ i < nS → k = 0 → kb = 1 → mo_fr f 40 < 3 → Q (.inr "java/lang/UnsupportedOperationException") J) (h1 : ((0 ≤ i ∧ i < nS) ∧ k = 0 ∧ kb = 1 ∧ 3 ≤ mo_fr f 40) → r2b = some pe ∧ (∀ Q' : aw_O → aw_J → Prop, (∀ v J', PD v J' → Q' (.inl (some (.ref v))) J') → aw_W G mT_wantedDefining (d + 1 + 1 + 1 + 1 + 1) Q' 0 [some (.ref x), some (.ref ep), some (.ref pe), none, none, none] [] J 14 76)) (h2 : ∀ e J1, ((0 ≤ i ∧ i < nS) ∧ k = 0 ∧ kb = 1 ∧ 3 ≤ mo_fr f 40) → PD e J1 → J1 x = J x ∧ J1 a = some (.inr (6, [va_rf rp, .ref lp, .ref ep, va_rf rf, .ref (G.2.2.2.1 0), va_rf r1, va_rf r2, va_rf r3, .ref aa, .int (iI n)])) ∧ (∀ Q' : aw_O → aw_J → Prop, (∀ v J', PF e v J' → Q' (.inl (some (.ref v))) J') → aw_W G mT_wantedFiltering (d + 1 + 1 + 1 + 1 + 1) Q' 0 [some (.ref x), some (va_rf rf), some (.ref e), none, none] [] (aw_up J1 a (.inr (6, [va_rf rp, .ref lp, .ref ep, va_rf rf, .ref (G.2.2.2.1 0), .ref e, va_rf r2, va_rf r3, .ref aa, .int (iI n)]))) 2 8)) (h3 : ∀ e u J2, ((0 ≤ i ∧ i < nS) ∧ k = 0 ∧ kb = 1 ∧ 3 ≤ mo_fr f 40) → PF e u J2 → J2 x = J x ∧ J2 a = some (.inr (6, [va_rf rp, .ref lp, .ref ep, va_rf rf, .ref (G.2.2.2.1 0), .ref e, va_rf r2, va_rf r3, .ref aa, .int (iI n)])) ∧ (∀ Q' : aw_O → aw_J → Prop, (∀ v J', PE e u v J' → Q' (.inl (some (.ref v))) J') → aw_W G mT_wantedDefining (d + 1 + 1 + 1 + 1 + 1) Q' 0 [some (.ref x), some (.ref lp), some (.ref e), none, none, none] [] (aw_up J2 a (.inr (6, [va_rf rp, .ref lp, .ref ep, va_rf rf, .ref (G.2.2.2.1 0), .ref e, .ref u, va_rf r3, .ref aa, .int (iI n)]))) 14 76)) (h4 : ∀ e u l J3, ((0 ≤ i ∧ i < nS) ∧ k = 0 ∧ kb = 1 ∧ 3 ≤ mo_fr f 40) → PE e u l J3 → J3 a = some (.inr (6, [va_rf rp, .ref lp, .ref ep, va_rf rf, .ref (G.2.2.2.1 0), .ref e, .ref u, va_rf r3, .ref aa, .int (iI n)])) ∧ aw_W G mT_lock (d + 1 + 1 + 1 + 1 + 1 + 1) Q 105 [some (.ref x), some (.int (iI i)), some (.ref a), some (.ref b)] [] (aw_up J3 a (.inr (6, [va_rf rp, .ref lp, .ref ep, va_rf rf, .ref (G.2.2.2.1 0), .ref e, .ref u, .ref l, .ref aa, .int (iI n)]))) 0 0) : aw_W G mT_lock (d + 1 + 1 + 1 + 1 + 1 + 1) Q 0 [some (.ref x), some (.int (iI i)), none, none] [] J kc ks := by
  refine aw_ens (fun he => ?_)
  cases rf with
  | none =>
    first | refine aw_aload_n dT_lock_0 rfl ?_ | refine aw_aload_nQ dT_lock_0 rfl ?_ | refine aw_aload_nN dT_lock_0 rfl ?_
    refine aw_iload_n dT_lock_1 rfl ?_
    refine aw_callV1 (mc' := 1) (ms' := 6) (kc' := (kc - 1)) (ks' := (ks - 6)) dT_lock_2 cT_126 hT (Nat.le_of_ble_eq_true rfl) (Nat.le_of_ble_eq_true rfl) (by omega) (by omega) rfl ?_
    refine sp_scopeAt (by omega) (by omega) hT hSA hn hi (fun hr => ?_) (fun hr => ?_)
    · exact hbad hr
    · obtain ⟨hc, hk3, hs⟩ := hSc hr
      rw [hc]
      first | refine aw_astore_n dT_lock_5 (by decide) rfl ?_ | refine aw_astore_nQ dT_lock_5 (by decide) rfl ?_ | refine aw_astore_nN dT_lock_5 (by decide) rfl ?_
      first | refine aw_aload_n dT_lock_6 rfl ?_ | refine aw_aload_nQ dT_lock_6 rfl ?_ | refine aw_aload_nN dT_lock_6 rfl ?_
      refine aw_callS1 (mc' := 1) (ms' := 6) (kc' := (kc - 2)) (ks' := (ks - 12)) dT_lock_7 cT_139 (Nat.le_of_ble_eq_true rfl) (Nat.le_of_ble_eq_true rfl) (by omega) (by omega) rfl ?_
      refine sp_requireOpen (by omega) (by omega) hk3 hs (fun hk0 => ?_) (fun hk0 => ?_)
      · obtain ⟨hrb, hkb, hsb⟩ := hrp hr hk0
        subst hk0
        first | refine aw_aload_n dT_lock_10 rfl ?_ | refine aw_aload_nQ dT_lock_10 rfl ?_ | refine aw_aload_nN dT_lock_10 rfl ?_
        refine aw_get dT_lock_11 fT_166 hs rfl ?_
        rw [hrb]
        refine aw_astore_n dT_lock_14 (by decide) rfl ?_
        refine aw_aload_n dT_lock_15 rfl ?_
        refine aw_ifnull (tgt := 29) (r := some b) dT_lock_16 (by decide) (fun hb16 => absurd hb16 (by simp)) (fun _ => ?_)
        first | refine aw_aload_n dT_lock_19 rfl ?_ | refine aw_aload_nQ dT_lock_19 rfl ?_ | refine aw_aload_nN dT_lock_19 rfl ?_
        refine aw_get dT_lock_20 fT_60 hsb rfl ?_
        refine aw_gets (i := 1) dT_lock_23 (by decide) wT_1_183 ?_
        refine aw_acmp_eq (tgt := 39) (x := some (G.2.2.2.1 kb)) (y := some (G.2.2.2.1 1)) dT_lock_26 (by decide) (fun hb26 => ?_) (fun hb26 => ?_)
        · first | refine aw_aload_n dT_lock_39 rfl ?_ | refine aw_aload_nQ dT_lock_39 rfl ?_ | refine aw_aload_nN dT_lock_39 rfl ?_
          refine aw_callV0 (mc' := 0) (ms' := 0) (kc' := (kc - 2)) (ks' := (ks - 12)) dT_lock_40 cT_172 hT (Nat.le_of_ble_eq_true rfl) (Nat.le_of_ble_eq_true rfl) (by omega) (by omega) rfl ?_
          refine sp_freeNumbers hT hLA hcl ?_
          have hfb := mo_fr_b f 40
          refine ai_iconst dT_lock_43 ?_
          refine ai_icmp_ge (tgt := 57) dT_lock_44 (by decide) (by omega) (by omega) (fun hb44 => ?_) (fun hb44 => ?_)
          · have hkb1 := he _ 1 hkb (by decide) (Option.some.inj hb26)
            have hgl : (0 ≤ i ∧ i < nS) ∧ (0 : Nat) = 0 ∧ kb = 1 ∧ 3 ≤ mo_fr f 40 := ⟨hr, rfl, hkb1, by omega⟩
            obtain ⟨hpe, hw1⟩ := h1 hgl
            subst hrb
            first | refine aw_aload_n dT_lock_57 rfl ?_ | refine aw_aload_nQ dT_lock_57 rfl ?_ | refine aw_aload_nN dT_lock_57 rfl ?_
            first | refine aw_aload_n dT_lock_58 rfl ?_ | refine aw_aload_nQ dT_lock_58 rfl ?_ | refine aw_aload_nN dT_lock_58 rfl ?_
            first | refine aw_aload_n dT_lock_59 rfl ?_ | refine aw_aload_nQ dT_lock_59 rfl ?_ | refine aw_aload_nN dT_lock_59 rfl ?_
            refine aw_get dT_lock_60 fT_142 hs rfl ?_
            first | refine aw_aload_n dT_lock_63 rfl ?_ | refine aw_aload_nQ dT_lock_63 rfl ?_ | refine aw_aload_nN dT_lock_63 rfl ?_
            refine aw_get dT_lock_64 fT_63 hsb rfl ?_
            rw [hpe]
            refine aw_callV2 (mc' := 14) (ms' := 76) (kc' := (kc - 16)) (ks' := (ks - 88)) dT_lock_67 cT_181 hT (Nat.le_of_ble_eq_true rfl) (Nat.le_of_ble_eq_true rfl) (by omega) (by omega) rfl ?_
            refine hw1 _ (fun e J1 hP1 => ?_)
            obtain ⟨hx1, hJ1, hw2⟩ := h2 e J1 hgl hP1
            refine aw_put dT_lock_70 sT_185 hJ1 rfl rfl (Nat.le_of_ble_eq_true rfl) ?_
            first | refine aw_aload_n dT_lock_73 rfl ?_ | refine aw_aload_nQ dT_lock_73 rfl ?_ | refine aw_aload_nN dT_lock_73 rfl ?_
            first | refine aw_aload_n dT_lock_74 rfl ?_ | refine aw_aload_nQ dT_lock_74 rfl ?_ | refine aw_aload_nN dT_lock_74 rfl ?_
            first | refine aw_aload_n dT_lock_75 rfl ?_ | refine aw_aload_nQ dT_lock_75 rfl ?_ | refine aw_aload_nN dT_lock_75 rfl ?_
            refine aw_get dT_lock_76 fT_162 aw_up_s rfl ?_
            first | refine aw_aload_n dT_lock_79 rfl ?_ | refine aw_aload_nQ dT_lock_79 rfl ?_ | refine aw_aload_nN dT_lock_79 rfl ?_
            refine aw_get dT_lock_80 fT_185 aw_up_s rfl ?_
            refine aw_callV2 (mc' := 2) (ms' := 8) (kc' := (kc - 18)) (ks' := (ks - 96)) dT_lock_83 cT_188 ((aw_up_n (aw_ne (hx1.trans hT) hJ1 (fun h => by cases h))).trans (hx1.trans hT)) (Nat.le_of_ble_eq_true rfl) (Nat.le_of_ble_eq_true rfl) (by omega) (by omega) rfl ?_
            refine hw2 _ (fun u J2 hP2 => ?_)
            obtain ⟨hx2, hJ2, hw3⟩ := h3 e u J2 hgl hP2
            refine aw_put dT_lock_86 sT_63 hJ2 rfl rfl (Nat.le_of_ble_eq_true rfl) ?_
            first | refine aw_aload_n dT_lock_89 rfl ?_ | refine aw_aload_nQ dT_lock_89 rfl ?_ | refine aw_aload_nN dT_lock_89 rfl ?_
            first | refine aw_aload_n dT_lock_90 rfl ?_ | refine aw_aload_nQ dT_lock_90 rfl ?_ | refine aw_aload_nN dT_lock_90 rfl ?_
            first | refine aw_aload_n dT_lock_91 rfl ?_ | refine aw_aload_nQ dT_lock_91 rfl ?_ | refine aw_aload_nN dT_lock_91 rfl ?_
            refine aw_get dT_lock_92 fT_152 aw_up_s rfl ?_
            first | refine aw_aload_n dT_lock_95 rfl ?_ | refine aw_aload_nQ dT_lock_95 rfl ?_ | refine aw_aload_nN dT_lock_95 rfl ?_
            refine aw_get dT_lock_96 fT_185 aw_up_s rfl ?_
            refine aw_callV2 (mc' := 14) (ms' := 76) (kc' := (kc - 32)) (ks' := (ks - 172)) dT_lock_99 cT_181 ((aw_up_n (aw_ne (hx2.trans hT) hJ2 (fun h => by cases h))).trans (hx2.trans hT)) (Nat.le_of_ble_eq_true rfl) (Nat.le_of_ble_eq_true rfl) (by omega) (by omega) rfl ?_
            refine hw3 _ (fun l J3 hP3 => ?_)
            obtain ⟨hJ3, hw4⟩ := h4 e u l J3 hgl hP3
            refine aw_put dT_lock_102 sT_67 hJ3 rfl rfl (Nat.le_of_ble_eq_true rfl) ?_
            exact aw_more (Nat.le_refl _) (by omega) (by omega) hw4
          · refine aw_throw t_178 rfl dT_lock_47 dT_lock_50 dT_lock_51 dT_lock_53 dT_lock_56 (Nat.le_of_ble_eq_true rfl) (by omega) (by omega) ?_
            exact hfew hr rfl (he _ 1 hkb (by decide) (Option.some.inj hb26)) (by omega)
        · refine aw_throw t_170 rfl dT_lock_29 dT_lock_32 dT_lock_33 dT_lock_35 dT_lock_38 (Nat.le_of_ble_eq_true rfl) (by omega) (by omega) ?_
          exact hst hr (fun z => hb26 (by rw [z.2]))
      · exact hst hr (fun z => hk0 z.1)
  | some fr =>
    first | refine aw_aload_n dT_lock_0 rfl ?_ | refine aw_aload_nQ dT_lock_0 rfl ?_ | refine aw_aload_nN dT_lock_0 rfl ?_
    refine aw_iload_n dT_lock_1 rfl ?_
    refine aw_callV1 (mc' := 1) (ms' := 6) (kc' := (kc - 1)) (ks' := (ks - 6)) dT_lock_2 cT_126 hT (Nat.le_of_ble_eq_true rfl) (Nat.le_of_ble_eq_true rfl) (by omega) (by omega) rfl ?_
    refine sp_scopeAt (by omega) (by omega) hT hSA hn hi (fun hr => ?_) (fun hr => ?_)
    · exact hbad hr
    · obtain ⟨hc, hk3, hs⟩ := hSc hr
      rw [hc]
      first | refine aw_astore_n dT_lock_5 (by decide) rfl ?_ | refine aw_astore_nQ dT_lock_5 (by decide) rfl ?_ | refine aw_astore_nN dT_lock_5 (by decide) rfl ?_
      first | refine aw_aload_n dT_lock_6 rfl ?_ | refine aw_aload_nQ dT_lock_6 rfl ?_ | refine aw_aload_nN dT_lock_6 rfl ?_
      refine aw_callS1 (mc' := 1) (ms' := 6) (kc' := (kc - 2)) (ks' := (ks - 12)) dT_lock_7 cT_139 (Nat.le_of_ble_eq_true rfl) (Nat.le_of_ble_eq_true rfl) (by omega) (by omega) rfl ?_
      refine sp_requireOpen (by omega) (by omega) hk3 hs (fun hk0 => ?_) (fun hk0 => ?_)
      · obtain ⟨hrb, hkb, hsb⟩ := hrp hr hk0
        subst hk0
        first | refine aw_aload_n dT_lock_10 rfl ?_ | refine aw_aload_nQ dT_lock_10 rfl ?_ | refine aw_aload_nN dT_lock_10 rfl ?_
        refine aw_get dT_lock_11 fT_166 hs rfl ?_
        rw [hrb]
        refine aw_astore_n dT_lock_14 (by decide) rfl ?_
        refine aw_aload_n dT_lock_15 rfl ?_
        refine aw_ifnull (tgt := 29) (r := some b) dT_lock_16 (by decide) (fun hb16 => absurd hb16 (by simp)) (fun _ => ?_)
        first | refine aw_aload_n dT_lock_19 rfl ?_ | refine aw_aload_nQ dT_lock_19 rfl ?_ | refine aw_aload_nN dT_lock_19 rfl ?_
        refine aw_get dT_lock_20 fT_60 hsb rfl ?_
        refine aw_gets (i := 1) dT_lock_23 (by decide) wT_1_183 ?_
        refine aw_acmp_eq (tgt := 39) (x := some (G.2.2.2.1 kb)) (y := some (G.2.2.2.1 1)) dT_lock_26 (by decide) (fun hb26 => ?_) (fun hb26 => ?_)
        · first | refine aw_aload_n dT_lock_39 rfl ?_ | refine aw_aload_nQ dT_lock_39 rfl ?_ | refine aw_aload_nN dT_lock_39 rfl ?_
          refine aw_callV0 (mc' := 0) (ms' := 0) (kc' := (kc - 2)) (ks' := (ks - 12)) dT_lock_40 cT_172 hT (Nat.le_of_ble_eq_true rfl) (Nat.le_of_ble_eq_true rfl) (by omega) (by omega) rfl ?_
          refine sp_freeNumbers hT hLA hcl ?_
          have hfb := mo_fr_b f 40
          refine ai_iconst dT_lock_43 ?_
          refine ai_icmp_ge (tgt := 57) dT_lock_44 (by decide) (by omega) (by omega) (fun hb44 => ?_) (fun hb44 => ?_)
          · have hkb1 := he _ 1 hkb (by decide) (Option.some.inj hb26)
            have hgl : (0 ≤ i ∧ i < nS) ∧ (0 : Nat) = 0 ∧ kb = 1 ∧ 3 ≤ mo_fr f 40 := ⟨hr, rfl, hkb1, by omega⟩
            obtain ⟨hpe, hw1⟩ := h1 hgl
            subst hrb
            first | refine aw_aload_n dT_lock_57 rfl ?_ | refine aw_aload_nQ dT_lock_57 rfl ?_ | refine aw_aload_nN dT_lock_57 rfl ?_
            first | refine aw_aload_n dT_lock_58 rfl ?_ | refine aw_aload_nQ dT_lock_58 rfl ?_ | refine aw_aload_nN dT_lock_58 rfl ?_
            first | refine aw_aload_n dT_lock_59 rfl ?_ | refine aw_aload_nQ dT_lock_59 rfl ?_ | refine aw_aload_nN dT_lock_59 rfl ?_
            refine aw_get dT_lock_60 fT_142 hs rfl ?_
            first | refine aw_aload_n dT_lock_63 rfl ?_ | refine aw_aload_nQ dT_lock_63 rfl ?_ | refine aw_aload_nN dT_lock_63 rfl ?_
            refine aw_get dT_lock_64 fT_63 hsb rfl ?_
            rw [hpe]
            refine aw_callV2 (mc' := 14) (ms' := 76) (kc' := (kc - 16)) (ks' := (ks - 88)) dT_lock_67 cT_181 hT (Nat.le_of_ble_eq_true rfl) (Nat.le_of_ble_eq_true rfl) (by omega) (by omega) rfl ?_
            refine hw1 _ (fun e J1 hP1 => ?_)
            obtain ⟨hx1, hJ1, hw2⟩ := h2 e J1 hgl hP1
            refine aw_put dT_lock_70 sT_185 hJ1 rfl rfl (Nat.le_of_ble_eq_true rfl) ?_
            first | refine aw_aload_n dT_lock_73 rfl ?_ | refine aw_aload_nQ dT_lock_73 rfl ?_ | refine aw_aload_nN dT_lock_73 rfl ?_
            first | refine aw_aload_n dT_lock_74 rfl ?_ | refine aw_aload_nQ dT_lock_74 rfl ?_ | refine aw_aload_nN dT_lock_74 rfl ?_
            first | refine aw_aload_n dT_lock_75 rfl ?_ | refine aw_aload_nQ dT_lock_75 rfl ?_ | refine aw_aload_nN dT_lock_75 rfl ?_
            refine aw_get dT_lock_76 fT_162 aw_up_s rfl ?_
            first | refine aw_aload_n dT_lock_79 rfl ?_ | refine aw_aload_nQ dT_lock_79 rfl ?_ | refine aw_aload_nN dT_lock_79 rfl ?_
            refine aw_get dT_lock_80 fT_185 aw_up_s rfl ?_
            refine aw_callV2 (mc' := 2) (ms' := 8) (kc' := (kc - 18)) (ks' := (ks - 96)) dT_lock_83 cT_188 ((aw_up_n (aw_ne (hx1.trans hT) hJ1 (fun h => by cases h))).trans (hx1.trans hT)) (Nat.le_of_ble_eq_true rfl) (Nat.le_of_ble_eq_true rfl) (by omega) (by omega) rfl ?_
            refine hw2 _ (fun u J2 hP2 => ?_)
            obtain ⟨hx2, hJ2, hw3⟩ := h3 e u J2 hgl hP2
            refine aw_put dT_lock_86 sT_63 hJ2 rfl rfl (Nat.le_of_ble_eq_true rfl) ?_
            first | refine aw_aload_n dT_lock_89 rfl ?_ | refine aw_aload_nQ dT_lock_89 rfl ?_ | refine aw_aload_nN dT_lock_89 rfl ?_
            first | refine aw_aload_n dT_lock_90 rfl ?_ | refine aw_aload_nQ dT_lock_90 rfl ?_ | refine aw_aload_nN dT_lock_90 rfl ?_
            first | refine aw_aload_n dT_lock_91 rfl ?_ | refine aw_aload_nQ dT_lock_91 rfl ?_ | refine aw_aload_nN dT_lock_91 rfl ?_
            refine aw_get dT_lock_92 fT_152 aw_up_s rfl ?_
            first | refine aw_aload_n dT_lock_95 rfl ?_ | refine aw_aload_nQ dT_lock_95 rfl ?_ | refine aw_aload_nN dT_lock_95 rfl ?_
            refine aw_get dT_lock_96 fT_185 aw_up_s rfl ?_
            refine aw_callV2 (mc' := 14) (ms' := 76) (kc' := (kc - 32)) (ks' := (ks - 172)) dT_lock_99 cT_181 ((aw_up_n (aw_ne (hx2.trans hT) hJ2 (fun h => by cases h))).trans (hx2.trans hT)) (Nat.le_of_ble_eq_true rfl) (Nat.le_of_ble_eq_true rfl) (by omega) (by omega) rfl ?_
            refine hw3 _ (fun l J3 hP3 => ?_)
            obtain ⟨hJ3, hw4⟩ := h4 e u l J3 hgl hP3
            refine aw_put dT_lock_102 sT_67 hJ3 rfl rfl (Nat.le_of_ble_eq_true rfl) ?_
            exact aw_more (Nat.le_refl _) (by omega) (by omega) hw4
          · refine aw_throw t_178 rfl dT_lock_47 dT_lock_50 dT_lock_51 dT_lock_53 dT_lock_56 (Nat.le_of_ble_eq_true rfl) (by omega) (by omega) ?_
            exact hfew hr rfl (he _ 1 hkb (by decide) (Option.some.inj hb26)) (by omega)
        · refine aw_throw t_170 rfl dT_lock_29 dT_lock_32 dT_lock_33 dT_lock_35 dT_lock_38 (Nat.le_of_ble_eq_true rfl) (by omega) (by omega) ?_
          exact hst hr (fun z => hb26 (by rw [z.2]))
      · exact hst hr (fun z => hk0 z.1)
end ST25
