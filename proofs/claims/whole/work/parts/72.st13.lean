/-! the class: isSubtype, newType, hasChildLeft -/
section ST13
variable {G : aw_G} {d : Nat} {Q : aw_O → aw_J → Prop} {J : aw_J} {kc ks : Nat}
theorem sp_sub_l {aT : Nat} {nT : Int} {cT : Nat → Option Nat} {Ty : Int → Nat} {nm vr : Int → Int} {D : Int → Option Nat} {sup : Int → Int} {t0 : Nat} {e : Int} (hY : st_TY G J aT cT nT Ty nm vr D sup) (hsup : ∀ c, 0 ≤ c → c < nT → -1 ≤ sup c ∧ sup c < c) (he : 0 ≤ e ∧ e < nT) : ∀ c : Int, -1 ≤ c → c < nT → (mo_dsc sup c e → Q (.inl (some (.int (iI 1)))) J) → (¬ mo_dsc sup c e → Q (.inl (some (.int (iI 0)))) J) → aw_W G mT_isSubtype d Q 2 [some (.ref t0), some (.ref (Ty e)), some (va_rf (st_o Ty c))] [] J kc ks := by
  refine il_dn (fun c hc1 ih hcn h1 h0 => ?_)
  by_cases hc0 : 0 ≤ c
  · have hc := hY.2.2 c hc0 hcn
    rw [show st_o Ty c = some (Ty c) from if_neg (by omega)]
    refine aw_aload_n dT_isSubtype_2 rfl ?_
    refine aw_ifnull (tgt := 21) (r := some (Ty c)) dT_isSubtype_3 (by decide) (fun hb3 => absurd hb3 (by simp)) (fun _ => ?_)
    first | refine aw_aload_n dT_isSubtype_6 rfl ?_ | refine aw_aload_nQ dT_isSubtype_6 rfl ?_ | refine aw_aload_nN dT_isSubtype_6 rfl ?_
    first | refine aw_aload_n dT_isSubtype_7 rfl ?_ | refine aw_aload_nQ dT_isSubtype_7 rfl ?_ | refine aw_aload_nN dT_isSubtype_7 rfl ?_
    refine aw_acmp_ne (tgt := 13) (x := some (Ty c)) (y := some (Ty e)) dT_isSubtype_8 (by decide) (fun hb8 => ?_) (fun hb8 => ?_)
    · first | refine aw_aload_n dT_isSubtype_13 rfl ?_ | refine aw_aload_nQ dT_isSubtype_13 rfl ?_ | refine aw_aload_nN dT_isSubtype_13 rfl ?_
      refine aw_get dT_isSubtype_14 fT_242 hc.2.2 rfl ?_
      first | refine aw_astore_n dT_isSubtype_17 (by decide) rfl ?_ | refine aw_astore_nQ dT_isSubtype_17 (by decide) rfl ?_ | refine aw_astore_nN dT_isSubtype_17 (by decide) rfl ?_
      refine aw_goto (tgt := 2) dT_isSubtype_18 (by decide) ?_
      have hs := hsup c hc0 hcn
      refine ih (sup c) (by omega) (by omega) (by omega) (fun z => h1 ((mo_dsc_iff sup c e).mpr ⟨hc0, Or.inr z⟩)) (fun z => h0 (fun y => ?_))
      rcases ((mo_dsc_iff sup c e).mp y).2 with y | y
      · exact hb8 (by rw [y])
      · exact z y
    · refine ai_iconst dT_isSubtype_11 ?_
      refine aw_zret dT_isSubtype_12 rfl (by decide +kernel) ?_
      exact h1 ((mo_dsc_iff sup c e).mpr ⟨hc0, Or.inl (hY.inj ⟨hc0, hcn⟩ he (Option.some.inj hb8))⟩)
  · rw [show st_o Ty c = none from if_pos (by omega)]
    refine aw_aload_nN dT_isSubtype_2 rfl ?_
    refine aw_ifnull (tgt := 21) (r := none) dT_isSubtype_3 (by decide) (fun _ => ?_) (fun hb3 => absurd hb3 (by simp))
    refine ai_iconst dT_isSubtype_21 ?_
    refine aw_zret dT_isSubtype_22 rfl (by decide +kernel) ?_
    exact h0 (fun z => absurd ((mo_dsc_iff sup c e).mp z).1 (by omega))
theorem sp_sub {aT : Nat} {nT : Int} {cT : Nat → Option Nat} {Ty : Int → Nat} {nm vr : Int → Int} {D : Int → Option Nat} {sup : Int → Int} {c e : Int} (hY : st_TY G J aT cT nT Ty nm vr D sup) (hsup : ∀ c, 0 ≤ c → c < nT → -1 ≤ sup c ∧ sup c < c) (hc : 0 ≤ c ∧ c < nT) (he : 0 ≤ e ∧ e < nT) (h1 : mo_dsc sup c e → Q (.inl (some (.int (iI 1)))) J) (h0 : ¬ mo_dsc sup c e → Q (.inl (some (.int (iI 0)))) J) : aw_W G mT_isSubtype d Q 0 [some (.ref (Ty c)), some (.ref (Ty e)), none] [] J kc ks := by
  refine aw_aload_n dT_isSubtype_0 rfl ?_
  refine aw_astore_n dT_isSubtype_1 (by decide) rfl ?_
  have k := sp_sub_l (Q := Q) (t0 := Ty c) (d := d) (kc := kc) (ks := ks) hY hsup he c (by omega) hc.2 h1 h0
  rw [show st_o Ty c = some (Ty c) from if_neg (by omega)] at k
  exact k
theorem sp_newType {x aA aS aL aT aO aN : Nat} {nS nT : Int} {cT : Nat → Option Nat} {cfo dl st ca : Nat} {m v l k h dc g : Int} {su : Value} {rp rf : Option Nat} (hkc : 1 ≤ kc) (hks : 6 ≤ ks) (hT : st_T J x aA aS aL aT aO aN nS nT) (hA : J aT = some (.inl (G.2.2.1 6, 120, .inr (.inr (.inr (.inr cT)))))) (hn : 8 ≤ nT ∧ nT ≤ 120) (hCF : J cfo = some (.inr (1, [.int (iI m), su, .int (iI v)]))) (hL : st_L J dl l k rp ca rf h dc g) (hfull : nT = 120 → Q (.inr "java/lang/UnsupportedOperationException") J) (hok : nT < 120 → ∀ q, J q = none → Q (.inl (some (.ref q))) (aw_up (aw_up (aw_up (aw_up J q (.inr (7, [.int (iI nT), .int (iI m), .int (iI v), .ref dl, .ref st]))) aT (.inl (G.2.2.1 6, 120, .inr (.inr (.inr (.inr (va_up cT nT.toNat (some q)))))))) x (.inr (8, [.ref aA, .ref aS, .int (iI nS), .ref aL, .ref aT, .int (iI (nT + 1)), .ref aO, .ref aN]))) dl (.inr (4, [.int (iI l), .int (iI k), va_rf rp, .ref ca, va_rf rf, .int (iI h), .int (iI (dc + 1)), .int (iI g)])))) : aw_W G mT_newType (d + 1) Q 0 [some (.ref x), some (.ref cfo), some (.ref dl), some (.ref st), none] [] J kc ks := by
  first | refine aw_aload_n dT_newType_0 rfl ?_ | refine aw_aload_nQ dT_newType_0 rfl ?_ | refine aw_aload_nN dT_newType_0 rfl ?_
  refine aw_get dT_newType_1 fT_47 hT rfl ?_
  refine ai_bipush dT_newType_4 (by decide +kernel) ?_
  refine ai_icmp_lt (tgt := 20) dT_newType_6 (by decide) (by omega) (by omega) (fun hb6 => ?_) (fun hb6 => ?_)
  · refine aw_new (kc' := kc - 1) (ks' := ks - 5) dT_newType_20 nT_27 (by omega) (by omega) (fun q hq0 => ?_)
    have uT : ∀ e, aw_up J q e x = _ := fun e => (aw_up_n (aw_nf hT hq0)).trans hT
    have uC : ∀ e, aw_up J q e cfo = _ := fun e => (aw_up_n (aw_nf hCF hq0)).trans hCF
    have uA : ∀ e, aw_up J q e aT = _ := fun e => (aw_up_n (aw_nf hA hq0)).trans hA
    have uL : ∀ e, aw_up J q e dl = _ := fun e => (aw_up_n (aw_nf hL hq0)).trans hL
    refine aw_dup dT_newType_23 rfl ?_
    first | refine aw_aload_n dT_newType_24 rfl ?_ | refine aw_aload_nQ dT_newType_24 rfl ?_ | refine aw_aload_nN dT_newType_24 rfl ?_
    refine aw_get dT_newType_25 fT_47 (uT _) rfl ?_
    first | refine aw_aload_n dT_newType_28 rfl ?_ | refine aw_aload_nQ dT_newType_28 rfl ?_ | refine aw_aload_nN dT_newType_28 rfl ?_
    refine aw_get dT_newType_29 fT_332 (uC _) rfl ?_
    first | refine aw_aload_n dT_newType_32 rfl ?_ | refine aw_aload_nQ dT_newType_32 rfl ?_ | refine aw_aload_nN dT_newType_32 rfl ?_
    refine aw_get dT_newType_33 fT_356 (uC _) rfl ?_
    first | refine aw_aload_n dT_newType_36 rfl ?_ | refine aw_aload_nQ dT_newType_36 rfl ?_ | refine aw_aload_nN dT_newType_36 rfl ?_
    first | refine aw_aload_n dT_newType_37 rfl ?_ | refine aw_aload_nQ dT_newType_37 rfl ?_ | refine aw_aload_nN dT_newType_37 rfl ?_
    refine aw_callIN5 (mc' := 0) (ms' := 0) (kc' := (kc - 1)) (ks' := (ks - 5)) dT_newType_38 cT_44 (Nat.le_of_ble_eq_true rfl) (Nat.le_of_ble_eq_true rfl) (by omega) (by omega) ?_
    refine sp_Yinit (rd := some dl) (rs := some st) aw_up_s ?_
    rw [aw_uu]
    first | refine aw_astore dT_newType_41 (by decide) rfl ?_ | refine aw_astoreQ dT_newType_41 (by decide) rfl ?_ | refine aw_astoreN dT_newType_41 (by decide) rfl ?_
    first | refine aw_aload_n dT_newType_43 rfl ?_ | refine aw_aload_nQ dT_newType_43 rfl ?_ | refine aw_aload_nN dT_newType_43 rfl ?_
    refine aw_get dT_newType_44 fT_29 (uT _) rfl ?_
    first | refine aw_aload_n dT_newType_47 rfl ?_ | refine aw_aload_nQ dT_newType_47 rfl ?_ | refine aw_aload_nN dT_newType_47 rfl ?_
    refine aw_get dT_newType_48 fT_47 (uT _) rfl ?_
    first | refine aw_aload dT_newType_51 rfl ?_ | refine aw_aloadQ dT_newType_51 rfl ?_ | refine aw_aloadN dT_newType_51 rfl ?_
    refine aw_aast dT_newType_53 rfl rfl (uA _) aw_up_s (iI_in (by omega) (by omega) (by omega)) ?_
    rw [iI_cl (by omega)]
    have xa : x ≠ aT := aw_ne hT hA (fun h => by cases h)
    have da : dl ≠ aT := aw_ne hL hA (fun h => by cases h)
    have dx : dl ≠ x := aw_ne hL hT (fun h => by cases h)
    first | refine aw_aload_n dT_newType_54 rfl ?_ | refine aw_aload_nQ dT_newType_54 rfl ?_ | refine aw_aload_nN dT_newType_54 rfl ?_
    refine aw_dup dT_newType_55 rfl ?_
    refine aw_get dT_newType_56 fT_47 ((aw_up_n xa).trans (uT _)) rfl ?_
    refine ai_iconst dT_newType_59 ?_
    refine ai_iadd dT_newType_60 ?_
    refine aw_put dT_newType_61 sT_47 ((aw_up_n xa).trans (uT _)) rfl rfl (Nat.le_of_ble_eq_true rfl) ?_
    first | refine aw_aload_n dT_newType_64 rfl ?_ | refine aw_aload_nQ dT_newType_64 rfl ?_ | refine aw_aload_nN dT_newType_64 rfl ?_
    refine aw_dup dT_newType_65 rfl ?_
    refine aw_get dT_newType_66 fT_212 ((aw_up_n dx).trans ((aw_up_n da).trans (uL _))) rfl ?_
    refine ai_iconst dT_newType_69 ?_
    refine ai_iadd dT_newType_70 ?_
    refine aw_put dT_newType_71 sT_212 ((aw_up_n dx).trans ((aw_up_n da).trans (uL _))) rfl rfl (Nat.le_of_ble_eq_true rfl) ?_
    first | refine aw_aload dT_newType_74 rfl ?_ | refine aw_aloadQ dT_newType_74 rfl ?_ | refine aw_aloadN dT_newType_74 rfl ?_
    refine aw_aret dT_newType_76 rfl (by first | exact Or.inr ⟨_, rfl⟩ | exact Or.inl rfl | exact aw_rf_or _) ?_
    exact hok (by omega) q hq0
  · refine aw_throwW t_354 rfl dT_newType_9 dT_newType_12 dT_newType_13 dT_newType_16 dT_newType_19 (Nat.le_of_ble_eq_true rfl) (by omega) (by omega) ?_
    exact hfull (by omega)

end ST13
