/-! typeAt, look, info, isA -/
section ST28
theorem sp_typeAt {G : aw_G} {d : Nat} {Q : aw_O → aw_J → Prop} {J : aw_J} {kc ks : Nat} {x aA aS aL aT aO aN : Nat} {nS nT : Int} {cT : Nat → Option Nat} {Ty : Int → Nat} {nm vr : Int → Int} {D : Int → Option Nat} {sup : Int → Int} {i : Int} (hkc : 1 ≤ kc) (hks : 6 ≤ ks) (hT : st_T J x aA aS aL aT aO aN nS nT) (hY : st_TY G J aT cT nT Ty nm vr D sup) (hi : iB i) (hbad : ¬ (0 ≤ i ∧ i < nT) → Q (.inr "java/util/NoSuchElementException") J) (hok : 0 ≤ i ∧ i < nT → Q (.inl (some (.ref (Ty i)))) J) : aw_W G mT_typeAt (d + 1) Q 0 [some (.ref x), some (.int (iI i))] [] J kc ks := by
  have hn := hY.2.1
  refine aw_iload_n dT_typeAt_0 rfl ?_
  first | refine aw_aload_n dT_typeAt_1 rfl ?_ | refine aw_aload_nQ dT_typeAt_1 rfl ?_ | refine aw_aload_nN dT_typeAt_1 rfl ?_
  refine aw_get dT_typeAt_2 fT_47 hT rfl ?_
  refine aw_callS2 (mc' := 0) (ms' := 0) (kc' := kc) (ks' := ks) dT_typeAt_5 cT_80 (Nat.le_of_ble_eq_true rfl) (Nat.le_of_ble_eq_true rfl) (by omega) (by omega) rfl ?_
  refine sp_below hi (by omega) (fun hi5 => ?_) (fun hi5 => ?_)
  · refine ai_if_ne (tgt := 22) dT_typeAt_8 (by decide) (by omega) (fun _ => ?_) (fun hb8 => absurd hb8 (by decide))
    first | refine aw_aload_n dT_typeAt_22 rfl ?_ | refine aw_aload_nQ dT_typeAt_22 rfl ?_ | refine aw_aload_nN dT_typeAt_22 rfl ?_
    refine aw_get dT_typeAt_23 fT_29 hT rfl ?_
    refine aw_iload_n dT_typeAt_26 rfl ?_
    refine aw_aald dT_typeAt_27 rfl hY.1 (iI_in (by omega) (by omega) (by omega)) ?_
    rw [iI_cl (by omega), (hY.2.2 i (by omega) (by omega)).2.1]
    refine aw_aret dT_typeAt_28 rfl (by first | exact Or.inr ⟨_, rfl⟩ | exact Or.inl rfl | exact aw_rf_or _) ?_
    exact hok (by omega)
  · refine ai_if_ne (tgt := 22) dT_typeAt_8 (by decide) (by omega) (fun hb8 => absurd hb8 (by decide)) (fun _ => ?_)
    refine aw_throwN (zz := 7) t_277 rfl dT_typeAt_11 dT_typeAt_14 (Or.inr ⟨dT_typeAt_15, rfl⟩) dT_typeAt_18 dT_typeAt_21 (Nat.le_of_ble_eq_true rfl) (by omega) (by omega) ?_
    exact hbad (by omega)

theorem sp_look {G : aw_G} {d : Nat} {Q : aw_O → aw_J → Prop} {J : aw_J} {kc ks : Nat} {x aA aS aL aT aO aN : Nat} {nS nT : Int} {cL : Nat → Option Nat} {a ca : Nat} {l w n kd h dc g pn : Int} {rp rf : Option Nat} {b : Nat} {tb : List Value} (hT : st_T J x aA aS aL aT aO aN nS nT) (hLA : J aL = some (.inl (G.2.2.1 5, 41, .inr (.inr (.inr (.inr cL)))))) (hl : iB l) (hw : iB w) (hbad : ¬ (0 ≤ l ∧ l ≤ 40) ∨ cL l.toNat = none → Q (.inl (some (.int (iI (-1))))) J) (hs : 0 ≤ l ∧ l ≤ 40 → ¬ cL l.toNat = none → cL l.toNat = some a ∧ st_L J a n kd rp ca rf h dc g ∧ (rp = none ∨ (rp = some b ∧ J b = some (.inr (4, .int (iI pn) :: tb))))) (hq : 0 ≤ l ∧ l ≤ 40 → ¬ cL l.toNat = none → ∀ v, (w = 0 → v = kd) → (w = 1 → rp = none → v = -1) → (w = 1 → rp = some b → v = pn) → (w = 2 → v = h) → (w = 3 → v = dc) → (¬ (0 ≤ w ∧ w ≤ 3) → v = -1) → Q (.inl (some (.int (iI v)))) J) : aw_W G mT_look (d + 1) Q 0 [some (.ref x), some (.int (iI l)), some (.int (iI w)), none] [] J kc ks := by
  refine aw_iload_n dT_look_0 rfl ?_
  refine ai_bipush dT_look_1 (by decide +kernel) ?_
  refine aw_callS2 (mc' := 0) (ms' := 0) (kc' := kc) (ks' := ks) dT_look_3 cT_80 (Nat.le_of_ble_eq_true rfl) (Nat.le_of_ble_eq_true rfl) (by omega) (by omega) rfl ?_
  refine sp_below hl (by decide) (fun hi3 => ?_) (fun hi3 => ?_)
  · refine ai_if_eq (tgt := 18) dT_look_6 (by decide) (by omega) (fun hb6 => absurd hb6 (by decide)) (fun _ => ?_)
    first | refine aw_aload_n dT_look_9 rfl ?_ | refine aw_aload_nQ dT_look_9 rfl ?_ | refine aw_aload_nN dT_look_9 rfl ?_
    refine aw_get dT_look_10 fT_23 hT rfl ?_
    refine aw_iload_n dT_look_13 rfl ?_
    refine aw_aald dT_look_14 rfl hLA (iI_in (by omega) (by omega) (by omega)) ?_
    rw [iI_cl (by omega)]
    refine aw_ifnonnull (tgt := 20) (r := cL l.toNat) dT_look_15 (by decide) (fun hb15 => ?_) (fun hb15 => ?_)
    · have hr : 0 ≤ l ∧ l ≤ 40 := by omega
      have hn : ¬ cL l.toNat = none := hb15
      obtain ⟨hca, hst, hpa⟩ := hs hr hn
      first | refine aw_aload_n dT_look_20 rfl ?_ | refine aw_aload_nQ dT_look_20 rfl ?_ | refine aw_aload_nN dT_look_20 rfl ?_
      refine aw_get dT_look_21 fT_23 hT rfl ?_
      refine aw_iload_n dT_look_24 rfl ?_
      refine aw_aald dT_look_25 rfl hLA (iI_in (by omega) (by omega) (by omega)) ?_
      rw [iI_cl (by omega), hca]
      refine aw_astore_n dT_look_26 (by decide) rfl ?_
      refine aw_iload_n dT_look_27 rfl ?_
      by_cases w0 : w = 0
      · subst w0
        refine aw_tableIn (off := 32) (tgt := 60) dT_look_28 (by rw [iI_toInt (by decide)]; decide) (by rw [iI_toInt (by decide)]; decide) (by rw [iI_toInt (by decide)]; rfl) (by decide) ?_
        refine aw_aload_n dT_look_60 rfl ?_
        refine aw_get dT_look_61 fT_207 hst rfl ?_
        refine aw_iret dT_look_64 rfl ?_
        exact hq hr hn (kd) (fun z => rfl) (fun z z2 => absurd z (by decide)) (fun z z2 => absurd z (by decide)) (fun z => absurd z (by decide)) (fun z => absurd z (by decide)) (fun z => absurd (by decide) z)
      · by_cases w1 : w = 1
        · subst w1
          refine aw_tableIn (off := 37) (tgt := 65) dT_look_28 (by rw [iI_toInt (by decide)]; decide) (by rw [iI_toInt (by decide)]; decide) (by rw [iI_toInt (by decide)]; rfl) (by decide) ?_
          refine aw_aload_n dT_look_65 rfl ?_
          refine aw_get dT_look_66 fT_210 hst rfl ?_
          rcases hpa with hp | ⟨hp, hJb⟩
          · rw [hp]
            refine aw_ifnonnull (tgt := 76) (r := none) dT_look_69 (by decide) (fun z => absurd rfl z) (fun _ => ?_)
            refine ai_iconst dT_look_72 ?_
            refine aw_goto (tgt := 83) dT_look_73 (by decide) ?_
            refine aw_iret dT_look_83 rfl ?_
            exact hq hr hn (-1) (fun z => absurd z (by decide)) (fun z z2 => rfl) (fun z z2 => (by rw [hp] at z2; cases z2)) (fun z => absurd z (by decide)) (fun z => absurd z (by decide)) (fun z => absurd (by decide) z)
          · rw [hp]
            refine aw_ifnonnull (tgt := 76) (r := some b) dT_look_69 (by decide) (fun _ => ?_) (fun z => absurd z (by simp))
            refine aw_aload_n dT_look_76 rfl ?_
            refine aw_get dT_look_77 fT_210 hst rfl ?_
            rw [hp]
            refine aw_get dT_look_80 fT_192 hJb rfl ?_
            refine aw_iret dT_look_83 rfl ?_
            exact hq hr hn (pn) (fun z => absurd z (by decide)) (fun z z2 => (by rw [hp] at z2; cases z2)) (fun z z2 => rfl) (fun z => absurd z (by decide)) (fun z => absurd z (by decide)) (fun z => absurd (by decide) z)
        · by_cases w2 : w = 2
          · subst w2
            refine aw_tableIn (off := 56) (tgt := 84) dT_look_28 (by rw [iI_toInt (by decide)]; decide) (by rw [iI_toInt (by decide)]; decide) (by rw [iI_toInt (by decide)]; rfl) (by decide) ?_
            refine aw_aload_n dT_look_84 rfl ?_
            refine aw_get dT_look_85 fT_70 hst rfl ?_
            refine aw_iret dT_look_88 rfl ?_
            exact hq hr hn (h) (fun z => absurd z (by decide)) (fun z z2 => absurd z (by decide)) (fun z z2 => absurd z (by decide)) (fun z => rfl) (fun z => absurd z (by decide)) (fun z => absurd (by decide) z)
          · by_cases w3 : w = 3
            · subst w3
              refine aw_tableIn (off := 61) (tgt := 89) dT_look_28 (by rw [iI_toInt (by decide)]; decide) (by rw [iI_toInt (by decide)]; decide) (by rw [iI_toInt (by decide)]; rfl) (by decide) ?_
              refine aw_aload_n dT_look_89 rfl ?_
              refine aw_get dT_look_90 fT_212 hst rfl ?_
              refine aw_iret dT_look_93 rfl ?_
              exact hq hr hn (dc) (fun z => absurd z (by decide)) (fun z z2 => absurd z (by decide)) (fun z z2 => absurd z (by decide)) (fun z => absurd z (by decide)) (fun z => rfl) (fun z => absurd (by decide) z)
            · refine aw_tableOut (tgt := 94) dT_look_28 (by rw [iI_toInt hw]; omega) (by decide) ?_
              refine ai_iconst dT_look_94 ?_
              refine aw_iret dT_look_95 rfl ?_
              exact hq hr hn (-1) (fun z => absurd z w0) (fun z _ => absurd z w1) (fun z _ => absurd z w1) (fun z => absurd z w2) (fun z => absurd z w3) (fun _ => rfl)
    · refine ai_iconst dT_look_18 ?_
      refine aw_iret dT_look_19 rfl ?_
      first | exact hbad (Or.inl (by omega)) | exact hbad (Or.inr hb15)
  · refine ai_if_eq (tgt := 18) dT_look_6 (by decide) (by omega) (fun _ => ?_) (fun hb6 => absurd hb6 (by decide))
    refine ai_iconst dT_look_18 ?_
    refine aw_iret dT_look_19 rfl ?_
    first | exact hbad (Or.inl (by omega)) | exact hbad (Or.inr hb15)

theorem sp_info {G : aw_G} {d : Nat} {Q : aw_O → aw_J → Prop} {J : aw_J} {kc ks : Nat} {x aA aS aL aT aO aN : Nat} {nS nT : Int} {cT : Nat → Option Nat} {Ty : Int → Nat} {nm vr : Int → Int} {D : Int → Option Nat} {sup : Int → Int} {i w ln dg : Int} {dl : Nat} (hkc : 2 ≤ kc) (hks : 12 ≤ ks) (hT : st_T J x aA aS aL aT aO aN nS nT) (hY : st_TY G J aT cT nT Ty nm vr D sup) (hi : iB i) (hw : iB w) (hsup : 0 ≤ i ∧ i < nT → -1 ≤ sup i ∧ sup i < i) (hD : 0 ≤ i ∧ i < nT → D i = some dl ∧ (dg = 0 ∨ dg = 1) ∧ ∃ v1 v2 v3 v4 v5 v6, J dl = some (.inr (4, [.int (iI ln), v1, v2, v3, v4, v5, v6, .int (iI dg)]))) (hbad : ¬ ((0 ≤ i ∧ i < nT) ∧ 0 ≤ w ∧ w ≤ 3) → Q (.inr "java/util/NoSuchElementException") J) (hq : 0 ≤ i ∧ i < nT → ∀ v, (w = 0 → v = nm i) → (w = 1 → dg = 1 → v = -1) → (w = 1 → dg = 0 → v = ln) → (w = 2 → v = vr i) → (w = 3 → v = sup i) → 0 ≤ w ∧ w ≤ 3 → Q (.inl (some (.int (iI v)))) J) : aw_W G mT_info (d + 1 + 1) Q 0 [some (.ref x), some (.int (iI i)), some (.int (iI w)), none] [] J kc ks := by
  have hn := hY.2.1
  first | refine aw_aload_n dT_info_0 rfl ?_ | refine aw_aload_nQ dT_info_0 rfl ?_ | refine aw_aload_nN dT_info_0 rfl ?_
  refine aw_iload_n dT_info_1 rfl ?_
  refine aw_callV1 (mc' := 1) (ms' := 6) (kc' := (kc - 1)) (ks' := (ks - 6)) dT_info_2 cT_225 hT (Nat.le_of_ble_eq_true rfl) (Nat.le_of_ble_eq_true rfl) (by omega) (by omega) rfl ?_
  refine sp_typeAt (by omega) (by omega) hT hY hi (fun hr => ?_) (fun hr => ?_)
  · exact hbad (fun z => hr z.1)
  · obtain ⟨hd1, hdg, v1, v2, v3, v4, v5, v6, hdl⟩ := hD hr
    have hty := (hY.2.2 i hr.1 hr.2).2.2
    first | refine aw_astore_n dT_info_5 (by decide) rfl ?_ | refine aw_astore_nQ dT_info_5 (by decide) rfl ?_ | refine aw_astore_nN dT_info_5 (by decide) rfl ?_
    refine aw_iload_n dT_info_6 rfl ?_
    by_cases w0 : w = 0
    · subst w0
      refine aw_tableIn (off := 29) (tgt := 36) dT_info_7 (by rw [iI_toInt (by decide)]; decide) (by rw [iI_toInt (by decide)]; decide) (by rw [iI_toInt (by decide)]; rfl) (by decide) ?_
      refine aw_aload_n dT_info_36 rfl ?_
      refine aw_get dT_info_37 fT_229 hty rfl ?_
      refine aw_iret dT_info_40 rfl ?_
      exact hq hr (nm i) (fun z => rfl) (fun z z2 => absurd z (by decide)) (fun z z2 => absurd z (by decide)) (fun z => absurd z (by decide)) (fun z => absurd z (by decide)) (by decide)
    · by_cases w1 : w = 1
      · subst w1
        refine aw_tableIn (off := 34) (tgt := 41) dT_info_7 (by rw [iI_toInt (by decide)]; decide) (by rw [iI_toInt (by decide)]; decide) (by rw [iI_toInt (by decide)]; rfl) (by decide) ?_
        refine aw_aload_n dT_info_41 rfl ?_
        refine aw_get dT_info_42 fT_232 hty rfl ?_
        rw [hd1]
        refine aw_get dT_info_45 fT_235 hdl rfl ?_
        rcases hdg with hg | hg
        · subst hg
          refine ai_if_eq (tgt := 55) dT_info_48 (by decide) (by decide) (fun _ => ?_) (fun z => absurd rfl z)
          refine aw_aload_n dT_info_55 rfl ?_
          refine aw_get dT_info_56 fT_232 hty rfl ?_
          rw [hd1]
          refine aw_get dT_info_59 fT_192 hdl rfl ?_
          refine aw_iret dT_info_62 rfl ?_
          exact hq hr (ln) (fun z => absurd z (by decide)) (fun z z2 => absurd z2 (by decide)) (fun z z2 => rfl) (fun z => absurd z (by decide)) (fun z => absurd z (by decide)) (by decide)
        · subst hg
          refine ai_if_eq (tgt := 55) dT_info_48 (by decide) (by decide) (fun z => absurd z (by decide)) (fun _ => ?_)
          refine ai_iconst dT_info_51 ?_
          refine aw_goto (tgt := 62) dT_info_52 (by decide) ?_
          refine aw_iret dT_info_62 rfl ?_
          exact hq hr (-1) (fun z => absurd z (by decide)) (fun z z2 => rfl) (fun z z2 => absurd z2 (by decide)) (fun z => absurd z (by decide)) (fun z => absurd z (by decide)) (by decide)
      · by_cases w2 : w = 2
        · subst w2
          refine aw_tableIn (off := 56) (tgt := 63) dT_info_7 (by rw [iI_toInt (by decide)]; decide) (by rw [iI_toInt (by decide)]; decide) (by rw [iI_toInt (by decide)]; rfl) (by decide) ?_
          refine aw_aload_n dT_info_63 rfl ?_
          refine aw_get dT_info_64 fT_239 hty rfl ?_
          refine aw_iret dT_info_67 rfl ?_
          exact hq hr (vr i) (fun z => absurd z (by decide)) (fun z z2 => absurd z (by decide)) (fun z z2 => absurd z (by decide)) (fun z => rfl) (fun z => absurd z (by decide)) (by decide)
        · by_cases w3 : w = 3
          · subst w3
            refine aw_tableIn (off := 61) (tgt := 68) dT_info_7 (by rw [iI_toInt (by decide)]; decide) (by rw [iI_toInt (by decide)]; decide) (by rw [iI_toInt (by decide)]; rfl) (by decide) ?_
            refine aw_aload_n dT_info_68 rfl ?_
            refine aw_get dT_info_69 fT_242 hty rfl ?_
            have hsu := hsup hr
            by_cases hsn : sup i < 0
            · rw [show st_o Ty (sup i) = none from if_pos hsn]
              refine aw_ifnonnull (tgt := 79) (r := none) dT_info_72 (by decide) (fun z => absurd rfl z) (fun _ => ?_)
              refine ai_iconst dT_info_75 ?_
              refine aw_goto (tgt := 86) dT_info_76 (by decide) ?_
              refine aw_iret dT_info_86 rfl ?_
              exact hq hr (-1) (fun z => absurd z (by decide)) (fun z z2 => absurd z (by decide)) (fun z z2 => absurd z (by decide)) (fun z => absurd z (by decide)) (fun z => (by omega)) (by decide)
            · rw [show st_o Ty (sup i) = some (Ty (sup i)) from if_neg hsn]
              refine aw_ifnonnull (tgt := 79) (r := some (Ty (sup i))) dT_info_72 (by decide) (fun _ => ?_) (fun z => absurd z (by simp))
              refine aw_aload_n dT_info_79 rfl ?_
              refine aw_get dT_info_80 fT_242 hty rfl ?_
              rw [show st_o Ty (sup i) = some (Ty (sup i)) from if_neg hsn]
              refine aw_get dT_info_83 fT_224 (hY.2.2 (sup i) (by omega) (by omega)).2.2 rfl ?_
              refine aw_iret dT_info_86 rfl ?_
              exact hq hr (sup i) (fun z => absurd z (by decide)) (fun z z2 => absurd z (by decide)) (fun z z2 => absurd z (by decide)) (fun z => absurd z (by decide)) (fun z => rfl) (by decide)
          · refine aw_tableOut (tgt := 87) dT_info_7 (by rw [iI_toInt hw]; omega) (by decide) ?_
            refine aw_throwN (zz := 6) t_248 rfl dT_info_87 dT_info_90 (Or.inl ⟨dT_info_91, rfl⟩) dT_info_93 dT_info_96 (Nat.le_of_ble_eq_true rfl) (by omega) (by omega) ?_
            exact hbad (by omega)

theorem sp_isA {G : aw_G} {d : Nat} {Q : aw_O → aw_J → Prop} {J : aw_J} {kc ks : Nat} {x aA aS aL aT aO aN : Nat} {nS nT : Int} {cT : Nat → Option Nat} {Ty : Int → Nat} {nm vr : Int → Int} {D : Int → Option Nat} {sup : Int → Int} {i j : Int} (hkc : 2 ≤ kc) (hks : 12 ≤ ks) (hT : st_T J x aA aS aL aT aO aN nS nT) (hY : st_TY G J aT cT nT Ty nm vr D sup) (hi : iB i) (hj : iB j) (hsup : ∀ c, 0 ≤ c → c < nT → -1 ≤ sup c ∧ sup c < c) (hbad : ¬ ((0 ≤ i ∧ i < nT) ∧ 0 ≤ j ∧ j < nT) → Q (.inr "java/util/NoSuchElementException") J) (h1 : (0 ≤ i ∧ i < nT) ∧ 0 ≤ j ∧ j < nT → mo_dsc sup i j → Q (.inl (some (.int (iI 1)))) J) (h0 : (0 ≤ i ∧ i < nT) ∧ 0 ≤ j ∧ j < nT → ¬ mo_dsc sup i j → Q (.inl (some (.int (iI 0)))) J) : aw_W G mT_isA (d + 1 + 1) Q 0 [some (.ref x), some (.int (iI i)), some (.int (iI j))] [] J kc ks := by
  first | refine aw_aload_n dT_isA_0 rfl ?_ | refine aw_aload_nQ dT_isA_0 rfl ?_ | refine aw_aload_nN dT_isA_0 rfl ?_
  refine aw_iload_n dT_isA_1 rfl ?_
  refine aw_callV1 (mc' := 1) (ms' := 6) (kc' := (kc - 1)) (ks' := (ks - 6)) dT_isA_2 cT_225 hT (Nat.le_of_ble_eq_true rfl) (Nat.le_of_ble_eq_true rfl) (by omega) (by omega) rfl ?_
  refine sp_typeAt (by omega) (by omega) hT hY hi (fun hr => ?_) (fun hr => ?_)
  · exact hbad (fun z => hr z.1)
  · first | refine aw_aload_n dT_isA_5 rfl ?_ | refine aw_aload_nQ dT_isA_5 rfl ?_ | refine aw_aload_nN dT_isA_5 rfl ?_
    refine aw_iload_n dT_isA_6 rfl ?_
    refine aw_callV1 (mc' := 1) (ms' := 6) (kc' := (kc - 2)) (ks' := (ks - 12)) dT_isA_7 cT_225 hT (Nat.le_of_ble_eq_true rfl) (Nat.le_of_ble_eq_true rfl) (by omega) (by omega) rfl ?_
    refine sp_typeAt (by omega) (by omega) hT hY hj (fun hr2 => ?_) (fun hr2 => ?_)
    · exact hbad (fun z => hr2 z.2)
    · refine aw_callS2 (mc' := 0) (ms' := 0) (kc' := (kc - 2)) (ks' := (ks - 12)) dT_isA_10 cT_251 (Nat.le_of_ble_eq_true rfl) (Nat.le_of_ble_eq_true rfl) (by omega) (by omega) rfl ?_
      refine sp_sub hY hsup hr hr2 (fun hd => ?_) (fun hd => ?_)
      · refine aw_zret dT_isA_13 rfl (by decide +kernel) ?_
        first | exact h1 ⟨hr, hr2⟩ hd | exact h0 ⟨hr, hr2⟩ hd
      · refine aw_zret dT_isA_13 rfl (by decide +kernel) ?_
        first | exact h1 ⟨hr, hr2⟩ hd | exact h0 ⟨hr, hr2⟩ hd

end ST28
