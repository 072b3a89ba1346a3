/-! findFrom, typeDefinedBy -/
section ST26
theorem sp_find_l {G : aw_G} {d : Nat} {Q : aw_O → aw_J → Prop} {J : aw_J} {kc ks : Nat} {x : Nat} {x1 : Option Value} {t : mo_T} {y : st_Y} {m N : Int} {r0 : Option (Int × Int)} {PT : aw_J → Prop} {PV : Nat → aw_J → Prop} (hx : ∃ vs, J x = some (.inr (8, vs))) (hm : 8 ≤ m ∧ m ≤ 63) (hr8 : t.1 8 0 = 0) (hr6 : ¬ t.1 6 0 = 2) (hnull : r0 = none → Q (.inl (some .null)) J) (hTD : ∀ l' f c, r0 = some (l', f) → J c = some (.inr (1, [.int (iI (t.1 2 f)), .int (iI (t.1 2 (f + 1))), .int (iI (t.1 2 (f + 2)))])) → ∀ Q' : aw_O → aw_J → Prop, (∀ J', PT J' → Q' (.inr "java/lang/UnsupportedOperationException") J') → (∀ v J', PV v J' → Q' (.inl (some (.ref v))) J') → aw_W G mT_typeDefinedBy (d + 3) Q' 0 [some (.ref x), some (.ref (yLo y l')), some (.ref c), some (.int (iI N)), none, none] [] J kc ks) (hPT : ∀ J', PT J' → Q (.inr "java/lang/UnsupportedOperationException") J') (hPV : ∀ v J', PV v J' → Q (.inl (some (.ref v))) J') : ∀ (n : Nat) (l : Int) (x5 : Option Value), st_ch G J t y n l → mo_chn t n l → mo_sr t m n l r0 → aw_W G mT_findFrom (d + 4) Q 16 [some (.ref x), x1, some (.int (iI m)), some (.int (iI N)), some (.ref (yLo y l)), x5] [] J kc ks := by
  obtain ⟨vx, hx⟩ := hx
  have root : ∀ (l : Int) (x5 : Option Value), l = 0 → st_LD G J t y l → r0 = none → aw_W G mT_findFrom (d + 4) Q 16 [some (.ref x), x1, some (.int (iI m)), some (.int (iI N)), some (.ref (yLo y l)), x5] [] J kc ks := by
    intro l x5 hl hLD hrn
    subst hl
    have hN0 : (t.1 8 0).toNat = 0 := by omega
    have hRf : yRf y 0 = none := hLD.2.2.2 hr6
    refine aw_aload dT_findFrom_16 rfl ?_
    refine aw_ifnull (tgt := 76) (r := some (yLo y 0)) dT_findFrom_18 (by decide) (fun z => absurd z (by simp)) (fun _ => ?_)
    refine aw_aload dT_findFrom_21 rfl ?_
    refine aw_get dT_findFrom_23 fT_301 hLD.1 rfl ?_
    rw [hRf]
    refine aw_ifnull (tgt := 43) (r := none) dT_findFrom_26 (by decide) (fun _ => ?_) (fun z => absurd rfl z)
    refine aw_aload dT_findFrom_43 rfl ?_
    refine aw_iload_n dT_findFrom_45 rfl ?_
    refine aw_callVN1 (mc' := 0) (ms' := 0) (kc' := kc) (ks' := ks) dT_findFrom_46 cT_324 hLD.1 (Nat.le_of_ble_eq_true rfl) (Nat.le_of_ble_eq_true rfl) (by omega) (by omega) ?_
    refine sp_LfileOf hLD.2.1 (by omega) hLD.1 (by omega) (fun i k c q1 q2 => absurd q2 (by omega)) (fun _ => ?_)
    refine aw_astoreN dT_findFrom_49 (by decide) rfl ?_
    refine aw_aloadN dT_findFrom_51 rfl ?_
    refine aw_ifnull (tgt := 66) (r := none) dT_findFrom_53 (by decide) (fun _ => ?_) (fun z => absurd rfl z)
    refine aw_aload dT_findFrom_66 rfl ?_
    refine aw_get dT_findFrom_68 fT_210 hLD.1 rfl ?_
    rw [show st_pa y t 0 = none from if_pos rfl]
    refine aw_astoreN dT_findFrom_71 (by decide) rfl ?_
    refine aw_goto (tgt := 16) dT_findFrom_73 (by decide) ?_
    refine aw_aloadN dT_findFrom_16 rfl ?_
    refine aw_ifnull (tgt := 76) (r := none) dT_findFrom_18 (by decide) (fun _ => ?_) (fun z => absurd rfl z)
    refine aw_null dT_findFrom_76 ?_
    refine aw_aret dT_findFrom_77 rfl (Or.inl rfl) ?_
    exact hnull hrn
  intro n
  induction n with
  | zero => exact fun l x5 hch hc hsr => root l x5 hc hch hsr
  | succ n ih =>
    intro l x5 hch hc hsr
    have hLD := hch.1
    rcases hc with hc | ⟨hl, hcc⟩
    · rcases hsr with ⟨_, e⟩ | ⟨e, _⟩
      · exact root l x5 hc hLD e
      · exact absurd e (by omega)
    · have hl1 := hl.1
      have hl8 := hl.2.2.1
      have hNN : ((t.1 8 l).toNat : Int) = t.1 8 l := by omega
      have hch2 : st_ch G J t y n (t.1 7 l) := by
        rcases hch.2 with e | e
        · omega
        · exact e
      refine aw_aload dT_findFrom_16 rfl ?_
      refine aw_ifnull (tgt := 76) (r := some (yLo y l)) dT_findFrom_18 (by decide) (fun z => absurd z (by simp)) (fun _ => ?_)
      refine aw_aload dT_findFrom_21 rfl ?_
      refine aw_get dT_findFrom_23 fT_301 hLD.1 rfl ?_
      by_cases k2 : t.1 6 l = 2
      · obtain ⟨fa, hfa, hff⟩ := hLD.2.2.1 k2
        have h80 := hl.2.2.2.1 k2
        rw [hfa]
        refine aw_ifnull (tgt := 43) (r := some fa) dT_findFrom_26 (by decide) (fun z => absurd z (by simp)) (fun _ => ?_)
        refine aw_aload dT_findFrom_29 rfl ?_
        refine aw_get dT_findFrom_31 fT_301 hLD.1 rfl ?_
        rw [hfa]
        refine aw_iload_n dT_findFrom_34 rfl ?_
        refine aw_callVN1 (mc' := 0) (ms' := 0) (kc' := kc) (ks' := ks) dT_findFrom_35 cT_321 hff (Nat.le_of_ble_eq_true rfl) (Nat.le_of_ble_eq_true rfl) (by omega) (by omega) ?_
        refine sp_admits (by omega) hff (fun ha => ?_) (fun ha => ?_)
        · refine ai_if_ne (tgt := 43) dT_findFrom_38 (by decide) (by decide) (fun _ => ?_) (fun z => absurd z (by decide))
          refine aw_aload dT_findFrom_43 rfl ?_
          refine aw_iload_n dT_findFrom_45 rfl ?_
          refine aw_callVN1 (mc' := 0) (ms' := 0) (kc' := kc) (ks' := ks) dT_findFrom_46 cT_324 hLD.1 (Nat.le_of_ble_eq_true rfl) (Nat.le_of_ble_eq_true rfl) (by omega) (by omega) ?_
          refine sp_LfileOf hLD.2.1 (by omega) hLD.1 (by omega) (fun i k c q1 q2 => absurd q2 (by omega)) (fun _ => ?_)
          refine aw_astoreN dT_findFrom_49 (by decide) rfl ?_
          refine aw_aloadN dT_findFrom_51 rfl ?_
          refine aw_ifnull (tgt := 66) (r := none) dT_findFrom_53 (by decide) (fun _ => ?_) (fun z => absurd rfl z)
          refine aw_aload dT_findFrom_66 rfl ?_
          refine aw_get dT_findFrom_68 fT_210 hLD.1 rfl ?_
          rw [show st_pa y t l = some (yLo y (t.1 7 l)) from if_neg (by omega)]
          refine aw_astore dT_findFrom_71 (by decide) rfl ?_
          refine aw_goto (tgt := 16) dT_findFrom_73 (by decide) ?_
          rcases hsr with ⟨e, _⟩ | ⟨_, ⟨_, ⟨e, _⟩ | ⟨_, e⟩⟩ | ⟨e, _⟩⟩
          · omega
          · exact absurd ha e
          · exact ih (t.1 7 l) _ hch2 hcc e
          · exact absurd k2 e
        · refine ai_if_ne (tgt := 43) dT_findFrom_38 (by decide) (by decide) (fun z => absurd rfl z) (fun _ => ?_)
          refine aw_null dT_findFrom_41 ?_
          refine aw_aret dT_findFrom_42 rfl (Or.inl rfl) ?_
          rcases hsr with ⟨e, _⟩ | ⟨_, ⟨_, ⟨_, e⟩ | ⟨e, _⟩⟩ | ⟨e, _⟩⟩
          · omega
          · exact hnull e
          · exact absurd e ha
          · exact absurd k2 e
      · have hRf : yRf y l = none := hLD.2.2.2 k2
        rw [hRf]
        refine aw_ifnull (tgt := 43) (r := none) dT_findFrom_26 (by decide) (fun _ => ?_) (fun z => absurd rfl z)
        refine aw_aload dT_findFrom_43 rfl ?_
        refine aw_iload_n dT_findFrom_45 rfl ?_
        refine aw_callVN1 (mc' := 0) (ms' := 0) (kc' := kc) (ks' := ks) dT_findFrom_46 cT_324 hLD.1 (Nat.le_of_ble_eq_true rfl) (Nat.le_of_ble_eq_true rfl) (by omega) (by omega) ?_
        refine sp_LfileOf hLD.2.1 (by omega) hLD.1 (by omega) (fun i k c q1 q2 q3 q4 q5 q6 hc6 => ?_) (fun hno2 => ?_)
        · have hfl : mo_fl t l m (24 * (10 + 4 * l + i) + 3 * k) := ⟨i, k, ⟨q1, by omega⟩, fun j p1 p2 k' p3 p4 => q3 j p1 p2 k' p3 p4, ⟨q4, q5⟩, rfl, q6⟩
          have hre : r0 = some (l, 24 * (10 + 4 * l + i) + 3 * k) := by
            rcases hsr with ⟨e, _⟩ | ⟨_, ⟨e, _⟩ | ⟨_, ⟨f', e, hf'⟩ | ⟨hnf, _⟩⟩⟩
            · omega
            · exact absurd e k2
            · rw [e, mo_fl_u hl.2.2.2.2.1 hf' hfl]
            · exact (mo_fl_nf hfl hnf).elim
          refine aw_astore dT_findFrom_49 (by decide) rfl ?_
          refine aw_aload dT_findFrom_51 rfl ?_
          refine aw_ifnull (tgt := 66) (r := some c) dT_findFrom_53 (by decide) (fun z => absurd z (by simp)) (fun _ => ?_)
          refine aw_aload_n dT_findFrom_56 rfl ?_
          refine aw_aload dT_findFrom_57 rfl ?_
          refine aw_aload dT_findFrom_59 rfl ?_
          refine aw_iload_n dT_findFrom_61 rfl ?_
          refine aw_callV3 (mc' := kc) (ms' := ks) (kc' := 0) (ks' := 0) dT_findFrom_62 cT_328 hx (Nat.le_of_ble_eq_true rfl) (Nat.le_of_ble_eq_true rfl) (by omega) (by omega) rfl ?_
          refine hTD _ _ c hre hc6 _ (fun J' hp => ?_) (fun v J' hp => ?_)
          · exact hPT J' hp
          · refine aw_aret dT_findFrom_65 rfl (Or.inr ⟨_, rfl⟩) ?_
            exact hPV v J' hp
        · have hnf : mo_nfl t l m := fun i p1 p2 k p3 p4 => hno2 i p1 (by omega) k p3 p4
          refine aw_astoreN dT_findFrom_49 (by decide) rfl ?_
          refine aw_aloadN dT_findFrom_51 rfl ?_
          refine aw_ifnull (tgt := 66) (r := none) dT_findFrom_53 (by decide) (fun _ => ?_) (fun z => absurd rfl z)
          refine aw_aload dT_findFrom_66 rfl ?_
          refine aw_get dT_findFrom_68 fT_210 hLD.1 rfl ?_
          rw [show st_pa y t l = some (yLo y (t.1 7 l)) from if_neg (by omega)]
          refine aw_astore dT_findFrom_71 (by decide) rfl ?_
          refine aw_goto (tgt := 16) dT_findFrom_73 (by decide) ?_
          rcases hsr with ⟨e, _⟩ | ⟨_, ⟨e, _⟩ | ⟨_, ⟨f', _, hf'⟩ | ⟨_, e⟩⟩⟩
          · omega
          · exact absurd e k2
          · exact (mo_fl_nf hf' hnf).elim
          · exact ih (t.1 7 l) _ hch2 hcc e
theorem sp_find {G : aw_G} {d : Nat} {Q : aw_O → aw_J → Prop} {J : aw_J} {kc ks : Nat} {x aA aS aL aT aO aN : Nat} {nS nT : Int} {cT : Nat → Option Nat} {Ty : Int → Nat} {nm vr : Int → Int} {D : Int → Option Nat} {sup : Int → Int} {t : mo_T} {y : st_Y} {n : Nat} {l m N : Int} {r0 : Option (Int × Int)} {PT : aw_J → Prop} {PV : Nat → aw_J → Prop} (hT : st_T J x aA aS aL aT aO aN nS nT) (hY : st_TY G J aT cT nT Ty nm vr D sup) (hm : 0 ≤ m ∧ m ≤ 63) (hr8 : t.1 8 0 = 0) (hr6 : ¬ t.1 6 0 = 2) (hlow : m < 8 → Q (.inl (some (.ref (Ty m)))) J) (hch : st_ch G J t y n l) (hc : mo_chn t n l) (hr : 8 ≤ m → mo_sr t m n l r0) (hnull : 8 ≤ m → r0 = none → Q (.inl (some .null)) J) (hTD : ∀ l' f c, 8 ≤ m → r0 = some (l', f) → J c = some (.inr (1, [.int (iI (t.1 2 f)), .int (iI (t.1 2 (f + 1))), .int (iI (t.1 2 (f + 2)))])) → ∀ Q' : aw_O → aw_J → Prop, (∀ J', PT J' → Q' (.inr "java/lang/UnsupportedOperationException") J') → (∀ v J', PV v J' → Q' (.inl (some (.ref v))) J') → aw_W G mT_typeDefinedBy (d + 3) Q' 0 [some (.ref x), some (.ref (yLo y l')), some (.ref c), some (.int (iI N)), none, none] [] J kc ks) (hPT : ∀ J', PT J' → Q (.inr "java/lang/UnsupportedOperationException") J') (hPV : ∀ v J', PV v J' → Q (.inl (some (.ref v))) J') : aw_W G mT_findFrom (d + 4) Q 0 [some (.ref x), some (.ref (yLo y l)), some (.int (iI m)), some (.int (iI N)), none, none] [] J kc ks := by
  refine aw_iload_n dT_findFrom_0 rfl ?_
  refine ai_bipush dT_findFrom_1 (by decide +kernel) ?_
  refine ai_icmp_ge (tgt := 13) dT_findFrom_3 (by decide) (by omega) (by decide) (fun hb3 => ?_) (fun hb3 => ?_)
  · refine aw_aload_n dT_findFrom_13 rfl ?_
    refine aw_astore dT_findFrom_14 (by decide) rfl ?_
    exact sp_find_l ⟨_, hT⟩ (by omega) hr8 hr6 (hnull (by omega)) (fun l' f c => hTD l' f c (by omega)) hPT hPV n l _ hch hc (hr (by omega))
  · first | refine aw_aload_n dT_findFrom_6 rfl ?_ | refine aw_aload_nQ dT_findFrom_6 rfl ?_ | refine aw_aload_nN dT_findFrom_6 rfl ?_
    refine aw_get dT_findFrom_7 fT_29 hT rfl ?_
    refine aw_iload_n dT_findFrom_10 rfl ?_
    have hc7 := hY.2.2 m (by omega) (by have := hY.2.1; omega)
    refine aw_aald dT_findFrom_11 rfl hY.1 (iI_in (by omega) (by omega) (by omega)) ?_
    rw [iI_cl (by omega), hc7.2.1]
    refine aw_aret dT_findFrom_12 rfl (by first | exact Or.inr ⟨_, rfl⟩ | exact Or.inl rfl | exact aw_rf_or _) ?_
    exact hlow (by omega)

theorem sp_tdb {G : aw_G} {d : Nat} {Q : aw_O → aw_J → Prop} {J : aw_J} {kc ks : Nat} {x aA aS aL aT aO aN : Nat} {nS nT : Int} {cT : Nat → Option Nat} {Ty : Int → Nat} {nm vr : Int → Int} {D : Int → Option Nat} {sup : Int → Int} {dl c mc ms : Nat} {m u v N : Int} {oL : Nat → Option Nat} {oN : Int → Int} {PT PT2 PN0 : aw_J → Prop} {PV PV2 : Nat → aw_J → Prop} (hkc : mc + 2 ≤ kc) (hks : ms + 12 ≤ ks) (hT : st_T J x aA aS aL aT aO aN nS nT) (hY : st_TY G J aT cT nT Ty nm vr D sup) (hcf : J c = some (.inr (1, [.int (iI m), .int (iI u), .int (iI v)]))) (hm : iB m) (hO : J aO = some (.inl (G.2.2.1 5, 8, .inr (.inr (.inr (.inr oL)))))) (hNm : J aN = some (.inl (G.2.2.1 0, 8, .inl (fun j : Nat => iI (oN (j : Int)))))) (hob : ∀ j, iB (oN j)) (hN : 0 ≤ N ∧ N ≤ 8) (hdl : ∃ vs, J dl = some (.inr (4, vs))) (hkn : ∀ e, 8 ≤ e → e < nT → D e = some dl → nm e = m → Q (.inl (some (.ref (Ty e)))) J) (hbe : (∀ e, 8 ≤ e → e < nT → ¬ (D e = some dl ∧ nm e = m)) → (∃ j, 0 ≤ j ∧ j < N ∧ oL j.toNat = some dl ∧ oN j = m) → Q (.inr "java/lang/UnsupportedOperationException") J) (h8 : (∀ e, 8 ≤ e → e < nT → ¬ (D e = some dl ∧ nm e = m)) → ¬ (∃ j, 0 ≤ j ∧ j < N ∧ oL j.toNat = some dl ∧ oN j = m) → N = 8 → Q (.inr "java/lang/UnsupportedOperationException") J) (hgo : (∀ e, 8 ≤ e → e < nT → ¬ (D e = some dl ∧ nm e = m)) → ¬ (∃ j, 0 ≤ j ∧ j < N ∧ oL j.toNat = some dl ∧ oN j = m) → N < 8 → ∀ Q' : aw_O → aw_J → Prop, (∀ J', PN0 J' → Q' (.inl (some .null)) J') → (∀ J', PT J' → Q' (.inr "java/lang/UnsupportedOperationException") J') → (∀ w J', PV w J' → Q' (.inl (some (.ref w))) J') → aw_W G mT_findFrom (d + 2) Q' 0 [some (.ref x), some (.ref dl), some (.int (iI u)), some (.int (iI (N + 1))), none, none] [] (aw_up (aw_up J aO (.inl (G.2.2.1 5, 8, .inr (.inr (.inr (.inr (va_up oL N.toNat (some dl)))))))) aN (.inl (G.2.2.1 0, 8, .inl (fun j : Nat => iI (if (j : Int) = N then m else oN (j : Int)))))) mc ms) (hPN : ∀ J', PN0 J' → Q (.inr "java/lang/UnsupportedOperationException") J') (hPT : ∀ J', PT J' → Q (.inr "java/lang/UnsupportedOperationException") J') (hnt : ∀ w J', PV w J' → ∃ vs, J' x = some (.inr (8, vs)) ∧ ∀ Q' : aw_O → aw_J → Prop, (∀ J'', PT2 J'' → Q' (.inr "java/lang/UnsupportedOperationException") J'') → (∀ w' J'', PV2 w' J'' → Q' (.inl (some (.ref w'))) J'') → aw_W G mT_newType (d + 2) Q' 0 [some (.ref x), some (.ref c), some (.ref dl), some (.ref w), none] [] J' 1 6) (hPT2 : ∀ J', PT2 J' → Q (.inr "java/lang/UnsupportedOperationException") J') (hPV2 : ∀ v J', PV2 v J' → Q (.inl (some (.ref v))) J') : aw_W G mT_typeDefinedBy (d + 3) Q 0 [some (.ref x), some (.ref dl), some (.ref c), some (.int (iI N)), none, none] [] J kc ks := by
  obtain ⟨vd, hdl⟩ := hdl
  first | refine aw_aload_n dT_typeDefinedBy_0 rfl ?_ | refine aw_aload_nQ dT_typeDefinedBy_0 rfl ?_ | refine aw_aload_nN dT_typeDefinedBy_0 rfl ?_
  first | refine aw_aload_n dT_typeDefinedBy_1 rfl ?_ | refine aw_aload_nQ dT_typeDefinedBy_1 rfl ?_ | refine aw_aload_nN dT_typeDefinedBy_1 rfl ?_
  first | refine aw_aload_n dT_typeDefinedBy_2 rfl ?_ | refine aw_aload_nQ dT_typeDefinedBy_2 rfl ?_ | refine aw_aload_nN dT_typeDefinedBy_2 rfl ?_
  refine aw_get dT_typeDefinedBy_3 fT_332 hcf rfl ?_
  refine aw_callV2 (mc' := 0) (ms' := 0) (kc' := kc) (ks' := ks) dT_typeDefinedBy_6 cT_333 hT (Nat.le_of_ble_eq_true rfl) (Nat.le_of_ble_eq_true rfl) (by omega) (by omega) rfl ?_
  refine sp_known hT hY hm (fun e q1 q2 q3 q4 => ?_) (fun hno => ?_)
  · refine aw_astore dT_typeDefinedBy_9 (by decide) rfl ?_
    refine aw_aload dT_typeDefinedBy_11 rfl ?_
    refine aw_ifnull (tgt := 19) (r := some (Ty e)) dT_typeDefinedBy_13 (by decide) (fun z => absurd z (by simp)) (fun _ => ?_)
    refine aw_aload dT_typeDefinedBy_16 rfl ?_
    refine aw_aret dT_typeDefinedBy_18 rfl (Or.inr ⟨_, rfl⟩) ?_
    exact hkn e q1 q2 q3 q4
  · refine aw_astoreN dT_typeDefinedBy_9 (by decide) rfl ?_
    refine aw_aloadN dT_typeDefinedBy_11 rfl ?_
    refine aw_ifnull (tgt := 19) (r := none) dT_typeDefinedBy_13 (by decide) (fun _ => ?_) (fun hb13 => absurd hb13 (by simp))
    first | refine aw_aload_n dT_typeDefinedBy_19 rfl ?_ | refine aw_aload_nQ dT_typeDefinedBy_19 rfl ?_ | refine aw_aload_nN dT_typeDefinedBy_19 rfl ?_
    first | refine aw_aload_n dT_typeDefinedBy_20 rfl ?_ | refine aw_aload_nQ dT_typeDefinedBy_20 rfl ?_ | refine aw_aload_nN dT_typeDefinedBy_20 rfl ?_
    first | refine aw_aload_n dT_typeDefinedBy_21 rfl ?_ | refine aw_aload_nQ dT_typeDefinedBy_21 rfl ?_ | refine aw_aload_nN dT_typeDefinedBy_21 rfl ?_
    refine aw_get dT_typeDefinedBy_22 fT_332 hcf rfl ?_
    refine aw_iload_n dT_typeDefinedBy_25 rfl ?_
    refine aw_callV3 (mc' := 0) (ms' := 0) (kc' := kc) (ks' := ks) dT_typeDefinedBy_26 cT_337 hT (Nat.le_of_ble_eq_true rfl) (Nat.le_of_ble_eq_true rfl) (by omega) (by omega) rfl ?_
    refine sp_being hT hO hNm hob hN hm (fun hex => ?_) (fun hex => ?_)
    · refine ai_if_eq (tgt := 43) dT_typeDefinedBy_29 (by decide) (by omega) (fun hb29 => absurd hb29 (by decide)) (fun _ => ?_)
      refine aw_throwW t_341 rfl dT_typeDefinedBy_32 dT_typeDefinedBy_35 dT_typeDefinedBy_36 dT_typeDefinedBy_39 dT_typeDefinedBy_42 (Nat.le_of_ble_eq_true rfl) (by omega) (by omega) ?_
      exact hbe hno hex
    · refine ai_if_eq (tgt := 43) dT_typeDefinedBy_29 (by decide) (by omega) (fun _ => ?_) (fun hb29 => absurd hb29 (by decide))
      refine aw_iload_n dT_typeDefinedBy_43 rfl ?_
      refine ai_bipush dT_typeDefinedBy_44 (by decide +kernel) ?_
      refine ai_icmp_lt (tgt := 60) dT_typeDefinedBy_46 (by decide) (by omega) (by decide) (fun hb46 => ?_) (fun hb46 => ?_)
      · first | refine aw_aload_n dT_typeDefinedBy_60 rfl ?_ | refine aw_aload_nQ dT_typeDefinedBy_60 rfl ?_ | refine aw_aload_nN dT_typeDefinedBy_60 rfl ?_
        refine aw_get dT_typeDefinedBy_61 fT_33 hT rfl ?_
        refine aw_iload_n dT_typeDefinedBy_64 rfl ?_
        first | refine aw_aload_n dT_typeDefinedBy_65 rfl ?_ | refine aw_aload_nQ dT_typeDefinedBy_65 rfl ?_ | refine aw_aload_nN dT_typeDefinedBy_65 rfl ?_
        refine aw_aast dT_typeDefinedBy_66 rfl rfl hO hdl (iI_in (by omega) (by omega) (by omega)) ?_
        rw [iI_cl (by omega)]
        have xo : x ≠ aO := aw_ne hT hO (fun h => by cases h)
        have co : c ≠ aO := aw_ne hcf hO (fun h => by cases h)
        have no : aN ≠ aO := aw_ne hNm hO (fun h => by injection h with h; injection h with _ h; injection h with _ h; cases h)
        have xn : x ≠ aN := aw_ne hT hNm (fun h => by cases h)
        have cn : c ≠ aN := aw_ne hcf hNm (fun h => by cases h)
        first | refine aw_aload_n dT_typeDefinedBy_67 rfl ?_ | refine aw_aload_nQ dT_typeDefinedBy_67 rfl ?_ | refine aw_aload_nN dT_typeDefinedBy_67 rfl ?_
        refine aw_get dT_typeDefinedBy_68 fT_36 ((aw_up_n xo).trans hT) rfl ?_
        refine aw_iload_n dT_typeDefinedBy_71 rfl ?_
        first | refine aw_aload_n dT_typeDefinedBy_72 rfl ?_ | refine aw_aload_nQ dT_typeDefinedBy_72 rfl ?_ | refine aw_aload_nN dT_typeDefinedBy_72 rfl ?_
        refine aw_get dT_typeDefinedBy_73 fT_332 ((aw_up_n co).trans hcf) rfl ?_
        refine aw_iast dT_typeDefinedBy_76 ((aw_up_n no).trans hNm) (iI_in (by omega) (by omega) (by omega)) ?_
        have e76 : upd (fun j : Nat => iI (oN (j : Int))) (iI N).toNatClampNeg (iI m) = (fun j : Nat => iI (if (j : Int) = N then m else oN (j : Int))) := by
          rw [iI_cl (by omega)]
          funext j
          unfold upd
          by_cases ej : j = N.toNat
          · rw [if_pos ej, if_pos (by omega)]
          · rw [if_neg ej, if_neg (by omega)]
        rw [e76]
        first | refine aw_aload_n dT_typeDefinedBy_77 rfl ?_ | refine aw_aload_nQ dT_typeDefinedBy_77 rfl ?_ | refine aw_aload_nN dT_typeDefinedBy_77 rfl ?_
        first | refine aw_aload_n dT_typeDefinedBy_78 rfl ?_ | refine aw_aload_nQ dT_typeDefinedBy_78 rfl ?_ | refine aw_aload_nN dT_typeDefinedBy_78 rfl ?_
        first | refine aw_aload_n dT_typeDefinedBy_79 rfl ?_ | refine aw_aload_nQ dT_typeDefinedBy_79 rfl ?_ | refine aw_aload_nN dT_typeDefinedBy_79 rfl ?_
        refine aw_get dT_typeDefinedBy_80 fT_345 ((aw_up_n cn).trans ((aw_up_n co).trans hcf)) rfl ?_
        refine aw_iload_n dT_typeDefinedBy_83 rfl ?_
        refine ai_iconst dT_typeDefinedBy_84 ?_
        refine ai_iadd dT_typeDefinedBy_85 ?_
        refine aw_callV3 (mc' := mc) (ms' := ms) (kc' := (kc - mc)) (ks' := (ks - ms)) dT_typeDefinedBy_86 cT_315 ((aw_up_n xn).trans ((aw_up_n xo).trans hT)) (Nat.le_of_ble_eq_true rfl) (Nat.le_of_ble_eq_true rfl) (by omega) (by omega) rfl ?_
        refine hgo hno hex (by omega) _ (fun J2 hp => ?_) (fun J2 hp => ?_) (fun w J2 hp => ?_)
        · refine aw_astoreN dT_typeDefinedBy_89 (by decide) rfl ?_
          refine aw_aloadN dT_typeDefinedBy_91 rfl ?_
          refine aw_ifnonnull (tgt := 107) (r := none) dT_typeDefinedBy_93 (by decide) (fun z => absurd rfl z) (fun _ => ?_)
          refine aw_throwW t_348 rfl dT_typeDefinedBy_96 dT_typeDefinedBy_99 dT_typeDefinedBy_100 dT_typeDefinedBy_103 dT_typeDefinedBy_106 (Nat.le_of_ble_eq_true rfl) (by omega) (by omega) ?_
          exact hPN J2 hp
        · exact hPT J2 hp
        · refine aw_astore dT_typeDefinedBy_89 (by decide) rfl ?_
          refine aw_aload dT_typeDefinedBy_91 rfl ?_
          refine aw_ifnonnull (tgt := 107) (r := some w) dT_typeDefinedBy_93 (by decide) (fun _ => ?_) (fun z => absurd z (by simp))
          obtain ⟨vx, hx2, hn2⟩ := hnt w J2 hp
          refine aw_aload_n dT_typeDefinedBy_107 rfl ?_
          refine aw_aload_n dT_typeDefinedBy_108 rfl ?_
          refine aw_aload_n dT_typeDefinedBy_109 rfl ?_
          refine aw_aload dT_typeDefinedBy_110 rfl ?_
          refine aw_callV3 (mc' := 1) (ms' := 6) (kc' := kc - mc - 1) (ks' := ks - ms - 6) dT_typeDefinedBy_112 cT_350 hx2 (Nat.le_of_ble_eq_true rfl) (Nat.le_of_ble_eq_true rfl) (by omega) (by omega) rfl ?_
          refine hn2 _ (fun J3 hp3 => ?_) (fun v3 J3 hp3 => ?_)
          · exact hPT2 J3 hp3
          · refine aw_aret dT_typeDefinedBy_115 rfl (Or.inr ⟨_, rfl⟩) ?_
            exact hPV2 v3 J3 hp3
      · refine aw_throwW t_343 rfl dT_typeDefinedBy_49 dT_typeDefinedBy_52 dT_typeDefinedBy_53 dT_typeDefinedBy_56 dT_typeDefinedBy_59 (Nat.le_of_ble_eq_true rfl) (by omega) (by omega) ?_
        exact h8 hno hex (by omega)

end ST26
