/-! the class: archiveAt, file -/
section ST2
variable {G : aw_G} {d : Nat} {Q : aw_O → aw_J → Prop} {J : aw_J} {kc ks : Nat}
def st_T (J : aw_J) (x aA aS aL aT aO aN : Nat) (nS nT : Int) : Prop := J x = some (.inr (8, [.ref aA, .ref aS, .int (iI nS), .ref aL, .ref aT, .int (iI nT), .ref aO, .ref aN]))
theorem st_A.up {a fa da q : Nat} {cf cd : Nat → Option Nat} {n m : Int} {e : va_E} (hq : J q = none) (h : st_A G J a fa da cf cd n m) : st_A G (aw_up J q e) a fa da cf cd n m :=
  ⟨(aw_up_n (aw_nf h.1 hq)).trans h.1, (aw_up_n (aw_nf h.2.1 hq)).trans h.2.1, (aw_up_n (aw_nf h.2.2.1 hq)).trans h.2.2.1, h.2.2.2⟩
theorem st_CF.up {q : Nat} {cf : Nat → Option Nat} {n : Int} {F : Int → Int × Int × Int} {e : va_E} (hq : J q = none) (h : st_CF J cf n F) : st_CF (aw_up J q e) cf n F := fun i h0 h1 => by
  obtain ⟨b, c, h2, h3⟩ := h i h0 h1
  exact ⟨b, c, h2, (aw_up_n (aw_nf h3 hq)).trans h3⟩
theorem st_DE.up {q : Nat} {cd : Nat → Option Nat} {n : Int} {E : Int → Int × Int} {e : va_E} (hq : J q = none) (h : st_DE J cd n E) : st_DE (aw_up J q e) cd n E := fun i h0 h1 => by
  obtain ⟨b, c, h2, h3⟩ := h i h0 h1
  exact ⟨b, c, h2, (aw_up_n (aw_nf h3 hq)).trans h3⟩
theorem sp_archiveAt {x aA aS aL aT aO aN : Nat} {nS nT : Int} {cA : Nat → Option Nat} {i : Int} (hkc : 1 ≤ kc) (hks : 6 ≤ ks) (hT : st_T J x aA aS aL aT aO aN nS nT) (hAA : J aA = some (.inl (G.2.2.1 3, 10, .inr (.inr (.inr (.inr cA)))))) (hi : iB i) (hbad : ¬ (0 ≤ i ∧ i < 10) → Q (.inr "java/lang/IllegalArgumentException") J) (hok : 0 ≤ i ∧ i < 10 → Q (.inl (some (va_rf (cA i.toNat)))) J) : aw_W G mT_archiveAt (d + 1) Q 0 [some (.ref x), some (.int (iI i))] [] J kc ks := by
  refine aw_iload_n dT_archiveAt_0 rfl ?_
  refine ai_bipush dT_archiveAt_1 (by decide +kernel) ?_
  refine aw_callS2 (mc' := 0) (ms' := 0) (kc' := kc) (ks' := ks) dT_archiveAt_3 cT_80 (Nat.le_of_ble_eq_true rfl) (Nat.le_of_ble_eq_true rfl) (by omega) (by omega) rfl ?_
  refine sp_below (by omega) (by decide) (fun hi3 => ?_) (fun hi3 => ?_)
  · refine ai_if_ne (tgt := 19) dT_archiveAt_6 (by decide) (by omega) (fun _ => ?_) (fun hb6 => absurd hb6 (by decide))
    first | refine aw_aload_n dT_archiveAt_19 rfl ?_ | refine aw_aload_nQ dT_archiveAt_19 rfl ?_ | refine aw_aload_nN dT_archiveAt_19 rfl ?_
    refine aw_get dT_archiveAt_20 fT_11 hT rfl ?_
    refine aw_iload_n dT_archiveAt_23 rfl ?_
    refine aw_aald dT_archiveAt_24 rfl hAA (iI_in (by omega) (by omega) (by omega)) ?_
    rw [iI_cl (by omega)]
    refine aw_aret dT_archiveAt_25 rfl (by first | exact Or.inr ⟨_, rfl⟩ | exact Or.inl rfl | exact aw_rf_or _) ?_
    exact hok (by omega)
  · refine ai_if_ne (tgt := 19) dT_archiveAt_6 (by decide) (by omega) (fun hb6 => absurd hb6 (by decide)) (fun _ => ?_)
    refine aw_throw t_137 rfl dT_archiveAt_9 dT_archiveAt_12 dT_archiveAt_13 dT_archiveAt_15 dT_archiveAt_18 (Nat.le_of_ble_eq_true rfl) (by omega) (by omega) ?_
    exact hbad (by omega)

theorem sp_file {x aA aS aL aT aO aN : Nat} {nS nT : Int} {cA : Nat → Option Nat} {i n u v : Int} {a fa da : Nat} {cf cd : Nat → Option Nat} {nn mm : Int} {F : Int → Int × Int × Int} (hkc : 3 ≤ kc) (hks : 15 ≤ ks) (hT : st_T J x aA aS aL aT aO aN nS nT) (hAA : J aA = some (.inl (G.2.2.1 3, 10, .inr (.inr (.inr (.inr cA)))))) (hi : iB i) (hn : iB n) (hu : iB u) (hv : iB v) (hAr : 0 ≤ i ∧ i < 10 → cA i.toNat = some a ∧ st_A G J a fa da cf cd nn mm ∧ st_CF J cf nn F) (hbad : ¬ ((0 ≤ i ∧ i < 10) ∧ (8 ≤ n ∧ n < 64) ∧ (0 ≤ u ∧ u < 64) ∧ (0 ≤ v ∧ v < 10)) → Q (.inr "java/lang/IllegalArgumentException") J) (hfull : (0 ≤ i ∧ i < 10) ∧ (8 ≤ n ∧ n < 64) ∧ (0 ≤ u ∧ u < 64) ∧ (0 ≤ v ∧ v < 10) → ∀ k, mo_lst (fun j => (F j).1 = n) nn k → k = 8 → ∀ q, J q = none → Q (.inr "java/lang/IllegalStateException") (aw_up J q (.inr (1, [.int (iI n), .int (iI u), .int (iI v)])))) (hok : (0 ≤ i ∧ i < 10) ∧ (8 ≤ n ∧ n < 64) ∧ (0 ≤ u ∧ u < 64) ∧ (0 ≤ v ∧ v < 10) → ∀ k, mo_lst (fun j => (F j).1 = n) nn k → k < 8 → ∀ q, J q = none → Q (.inl (some (.int (iI (if nn < k + 1 then k + 1 else nn))))) (aw_up (aw_up (aw_up J q (.inr (1, [.int (iI n), .int (iI u), .int (iI v)]))) fa (.inl (G.2.2.1 7, 8, .inr (.inr (.inr (.inr (va_up cf k.toNat (some q)))))))) a (.inr (0, [.ref fa, .int (iI (if nn < k + 1 then k + 1 else nn)), .ref da, .int (iI mm)])))) : aw_W G mT_file (d + 3) Q 0 [some (.ref x), some (.int (iI i)), some (.int (iI n)), some (.int (iI u)), some (.int (iI v)), none] [] J kc ks := by
  first | refine aw_aload_n dT_file_0 rfl ?_ | refine aw_aload_nQ dT_file_0 rfl ?_ | refine aw_aload_nN dT_file_0 rfl ?_
  refine aw_iload_n dT_file_1 rfl ?_
  refine aw_callV1 (mc' := 1) (ms' := 6) (kc' := (kc - 1)) (ks' := (ks - 6)) dT_file_2 cT_76 hT (Nat.le_of_ble_eq_true rfl) (Nat.le_of_ble_eq_true rfl) (by omega) (by omega) rfl ?_
  refine sp_archiveAt (by omega) (by omega) hT hAA hi (fun hr => ?_) (fun hr => ?_)
  · exact hbad (by omega)
  · obtain ⟨ha1, hA, hF⟩ := hAr hr
    rw [ha1]
    first | refine aw_astore dT_file_5 (by decide) rfl ?_ | refine aw_astoreQ dT_file_5 (by decide) rfl ?_ | refine aw_astoreN dT_file_5 (by decide) rfl ?_
    refine aw_iload_n dT_file_7 rfl ?_
    refine ai_bipush dT_file_8 (by decide +kernel) ?_
    refine aw_callS2 (mc' := 0) (ms' := 0) (kc' := (kc - 1)) (ks' := (ks - 6)) dT_file_10 cT_80 (Nat.le_of_ble_eq_true rfl) (Nat.le_of_ble_eq_true rfl) (by omega) (by omega) rfl ?_
    refine sp_below (by omega) (by decide) (fun hi10 => ?_) (fun hi10 => ?_)
    · refine ai_if_eq (tgt := 22) dT_file_13 (by decide) (by omega) (fun hb13 => absurd hb13 (by decide)) (fun _ => ?_)
      refine aw_iload_n dT_file_16 rfl ?_
      refine ai_bipush dT_file_17 (by decide +kernel) ?_
      refine ai_icmp_ge (tgt := 32) dT_file_19 (by decide) (by omega) (by omega) (fun hb19 => ?_) (fun hb19 => ?_)
      · refine aw_iload_n dT_file_32 rfl ?_
        refine ai_bipush dT_file_33 (by decide +kernel) ?_
        refine aw_callS2 (mc' := 0) (ms' := 0) (kc' := (kc - 1)) (ks' := (ks - 6)) dT_file_35 cT_80 (Nat.le_of_ble_eq_true rfl) (Nat.le_of_ble_eq_true rfl) (by omega) (by omega) rfl ?_
        refine sp_below (by omega) (by decide) (fun hi35 => ?_) (fun hi35 => ?_)
        · refine ai_if_eq (tgt := 51) dT_file_38 (by decide) (by omega) (fun hb38 => absurd hb38 (by decide)) (fun _ => ?_)
          refine aw_iload dT_file_41 rfl ?_
          refine ai_bipush dT_file_43 (by decide +kernel) ?_
          refine aw_callS2 (mc' := 0) (ms' := 0) (kc' := (kc - 1)) (ks' := (ks - 6)) dT_file_45 cT_80 (Nat.le_of_ble_eq_true rfl) (Nat.le_of_ble_eq_true rfl) (by omega) (by omega) rfl ?_
          refine sp_below (by omega) (by decide) (fun hi45 => ?_) (fun hi45 => ?_)
          · refine ai_if_ne (tgt := 61) dT_file_48 (by decide) (by omega) (fun _ => ?_) (fun hb48 => absurd hb48 (by decide))
            first | refine aw_aload dT_file_61 rfl ?_ | refine aw_aloadQ dT_file_61 rfl ?_ | refine aw_aloadN dT_file_61 rfl ?_
            refine aw_new (kc' := kc - 2) (ks' := ks - 9) dT_file_63 nT_93 (by omega) (by omega) (fun q hq0 => ?_)
            refine aw_dup dT_file_66 rfl ?_
            refine aw_iload_n dT_file_67 rfl ?_
            refine aw_iload_n dT_file_68 rfl ?_
            refine aw_iload dT_file_69 rfl ?_
            refine aw_callIN3 (mc' := 0) (ms' := 0) (kc' := (kc - 2)) (ks' := (ks - 9)) dT_file_71 cT_95 (Nat.le_of_ble_eq_true rfl) (Nat.le_of_ble_eq_true rfl) (by omega) (by omega) ?_
            refine sp_Cinit (fs := []) aw_up_s ?_
            rw [aw_uu]
            have hA2 := hA.up (e := .inr (1, [.int (iI n), .int (iI u), .int (iI v)])) hq0
            have hF2 := hF.up (e := .inr (1, [.int (iI n), .int (iI u), .int (iI v)])) hq0
            refine aw_callVN1 (mc' := 0) (ms' := 0) (kc' := (kc - 2)) (ks' := (ks - 9)) dT_file_74 cT_98 hA2.1 (Nat.le_of_ble_eq_true rfl) (Nat.le_of_ble_eq_true rfl) (by omega) (by omega) ?_
            refine sp_putF hA2 hF2 hn aw_up_s (fun k hk h8 => ?_) (fun k hk h8 => ?_)
            · refine ai_if_ne (tgt := 90) dT_file_77 (by decide) (by omega) (fun hb77 => absurd hb77 (by decide)) (fun _ => ?_)
              refine aw_throw t_104 rfl dT_file_80 dT_file_83 dT_file_84 dT_file_86 dT_file_89 (Nat.le_of_ble_eq_true rfl) (by omega) (by omega) ?_
              exact hfull (by omega) k hk h8 q hq0
            · refine ai_if_ne (tgt := 90) dT_file_77 (by decide) (by omega) (fun _ => ?_) (fun hb77 => absurd hb77 (by decide))
              first | refine aw_aload dT_file_90 rfl ?_ | refine aw_aloadQ dT_file_90 rfl ?_ | refine aw_aloadN dT_file_90 rfl ?_
              refine aw_get dT_file_92 fT_107 aw_up_s rfl ?_
              refine aw_iret dT_file_95 rfl ?_
              exact hok (by omega) k hk h8 q hq0
          · refine ai_if_ne (tgt := 61) dT_file_48 (by decide) (by omega) (fun hb48 => absurd hb48 (by decide)) (fun _ => ?_)
            refine aw_throw t_91 rfl dT_file_51 dT_file_54 dT_file_55 dT_file_57 dT_file_60 (Nat.le_of_ble_eq_true rfl) (by omega) (by omega) ?_
            exact hbad (by omega)
        · refine ai_if_eq (tgt := 51) dT_file_38 (by decide) (by omega) (fun _ => ?_) (fun hb38 => absurd hb38 (by decide))
          refine aw_throw t_91 rfl dT_file_51 dT_file_54 dT_file_55 dT_file_57 dT_file_60 (Nat.le_of_ble_eq_true rfl) (by omega) (by omega) ?_
          exact hbad (by omega)
      · refine aw_throw t_86 rfl dT_file_22 dT_file_25 dT_file_26 dT_file_28 dT_file_31 (Nat.le_of_ble_eq_true rfl) (by omega) (by omega) ?_
        exact hbad (by omega)
    · refine ai_if_eq (tgt := 22) dT_file_13 (by decide) (by omega) (fun _ => ?_) (fun hb13 => absurd hb13 (by decide))
      refine aw_throw t_86 rfl dT_file_22 dT_file_25 dT_file_26 dT_file_28 dT_file_31 (Nat.le_of_ble_eq_true rfl) (by omega) (by omega) ?_
      exact hbad (by omega)

end ST2
