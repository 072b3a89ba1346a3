/-! the class: types -/
section ST12
variable {G : aw_G} {d : Nat} {Q : aw_O → aw_J → Prop} {J : aw_J} {kc ks : Nat}
def st_o (Ty : Int → Nat) (z : Int) : Option Nat := if z < 0 then none else some (Ty z)
/-- the types: nT of them, in the row aT, at Ty c, with name, version, definer, super -/
def st_TY (G : aw_G) (J : aw_J) (aT : Nat) (cT : Nat → Option Nat) (nT : Int) (Ty : Int → Nat) (nm vr : Int → Int) (D : Int → Option Nat) (sup : Int → Int) : Prop := J aT = some (.inl (G.2.2.1 6, 120, .inr (.inr (.inr (.inr cT))))) ∧ (8 ≤ nT ∧ nT ≤ 120) ∧ ∀ c, 0 ≤ c → c < nT → iB (nm c) ∧ cT c.toNat = some (Ty c) ∧ J (Ty c) = some (.inr (7, [.int (iI c), .int (iI (nm c)), .int (iI (vr c)), va_rf (D c), va_rf (st_o Ty (sup c))]))
theorem st_TY.inj {aT : Nat} {cT : Nat → Option Nat} {nT : Int} {Ty : Int → Nat} {nm vr : Int → Int} {D : Int → Option Nat} {sup : Int → Int} (h : st_TY G J aT cT nT Ty nm vr D sup) {c e : Int} (hc : 0 ≤ c ∧ c < nT) (he : 0 ≤ e ∧ e < nT) (hq : Ty c = Ty e) : c = e := by
  have h1 := (h.2.2 c hc.1 hc.2).2.2
  have h2 := (h.2.2 e he.1 he.2).2.2
  have h8 := h.2.1
  rw [hq, h2] at h1
  injection h1 with h1
  injection h1 with h1
  injection h1 with _ h1
  injection h1 with h1 _
  injection h1 with h1
  exact ((iI_eq (by omega) (by omega)).mp h1).symm
theorem sp_known_l {x aA aS aL aT aO aN : Nat} {nS nT : Int} {cT : Nat → Option Nat} {Ty : Int → Nat} {nm vr : Int → Int} {D : Int → Option Nat} {sup : Int → Int} {dl : Nat} {m : Int} (hT : st_T J x aA aS aL aT aO aN nS nT) (hY : st_TY G J aT cT nT Ty nm vr D sup) (hm : iB m) (h1 : ∀ c, 8 ≤ c → c < nT → D c = some dl → nm c = m → Q (.inl (some (.ref (Ty c)))) J) (h0 : (∀ c, 8 ≤ c → c < nT → ¬ (D c = some dl ∧ nm c = m)) → Q (.inl (some .null)) J) : ∀ i : Int, i ≤ nT → 8 ≤ i → (∀ c, 8 ≤ c → c < i → ¬ (D c = some dl ∧ nm c = m)) → aw_W G mT_knownType d Q 3 [some (.ref x), some (.ref dl), some (.int (iI m)), some (.int (iI i))] [] J kc ks := by
  have hn8 := hY.2.1
  refine il_up nT (fun i hi ih h8 hj => ?_)
  refine aw_iload_n dT_knownType_3 rfl ?_
  first | refine aw_aload_n dT_knownType_4 rfl ?_ | refine aw_aload_nQ dT_knownType_4 rfl ?_ | refine aw_aload_nN dT_knownType_4 rfl ?_
  refine aw_get dT_knownType_5 fT_47 hT rfl ?_
  refine ai_icmp_ge (tgt := 50) dT_knownType_8 (by decide) (by omega) (by omega) (fun hb8 => ?_) (fun hb8 => ?_)
  · refine aw_null dT_knownType_50 ?_
    refine aw_aret dT_knownType_51 rfl (by first | exact Or.inr ⟨_, rfl⟩ | exact Or.inl rfl | exact aw_rf_or _) ?_
    exact h0 (fun c q1 q2 => hj c q1 (by omega))
  · first | refine aw_aload_n dT_knownType_11 rfl ?_ | refine aw_aload_nQ dT_knownType_11 rfl ?_ | refine aw_aload_nN dT_knownType_11 rfl ?_
    have hc := hY.2.2 i (by omega) (by omega)
    refine aw_get dT_knownType_12 fT_29 hT rfl ?_
    refine aw_iload_n dT_knownType_15 rfl ?_
    refine aw_aald dT_knownType_16 rfl hY.1 (iI_in (by omega) (by omega) (by omega)) ?_
    rw [iI_cl (by omega), hc.2.1]
    refine aw_get dT_knownType_17 fT_232 hc.2.2 rfl ?_
    first | refine aw_aload_n dT_knownType_20 rfl ?_ | refine aw_aload_nQ dT_knownType_20 rfl ?_ | refine aw_aload_nN dT_knownType_20 rfl ?_
    refine aw_acmp_ne (tgt := 44) (x := D i) (y := some dl) dT_knownType_21 (by decide) (fun hb21 => ?_) (fun hb21 => ?_)
    · refine ai_iinc dT_knownType_44 rfl (by decide) rfl ?_
      refine aw_goto (tgt := 3) dT_knownType_47 (by decide) ?_
      refine ih (by omega) (by omega) (fun j q1 q2 => ?_)
      by_cases e : j = i
      · subst e
        first
          | exact fun z => hb21 z.1
          | exact fun z => hb34 z.2
      · exact hj j q1 (by omega)
    · first | refine aw_aload_n dT_knownType_24 rfl ?_ | refine aw_aload_nQ dT_knownType_24 rfl ?_ | refine aw_aload_nN dT_knownType_24 rfl ?_
      refine aw_get dT_knownType_25 fT_29 hT rfl ?_
      refine aw_iload_n dT_knownType_28 rfl ?_
      refine aw_aald dT_knownType_29 rfl hY.1 (iI_in (by omega) (by omega) (by omega)) ?_
      rw [iI_cl (by omega), hc.2.1]
      refine aw_get dT_knownType_30 fT_229 hc.2.2 rfl ?_
      refine aw_iload_n dT_knownType_33 rfl ?_
      refine ai_icmp_ne (tgt := 44) dT_knownType_34 (by decide) hc.1 hm (fun hb34 => ?_) (fun hb34 => ?_)
      · refine ai_iinc dT_knownType_44 rfl (by decide) rfl ?_
        refine aw_goto (tgt := 3) dT_knownType_47 (by decide) ?_
        refine ih (by omega) (by omega) (fun j q1 q2 => ?_)
        by_cases e : j = i
        · subst e
          first
            | exact fun z => hb21 z.1
            | exact fun z => hb34 z.2
        · exact hj j q1 (by omega)
      · first | refine aw_aload_n dT_knownType_37 rfl ?_ | refine aw_aload_nQ dT_knownType_37 rfl ?_ | refine aw_aload_nN dT_knownType_37 rfl ?_
        refine aw_get dT_knownType_38 fT_29 hT rfl ?_
        refine aw_iload_n dT_knownType_41 rfl ?_
        refine aw_aald dT_knownType_42 rfl hY.1 (iI_in (by omega) (by omega) (by omega)) ?_
        rw [iI_cl (by omega), hc.2.1]
        refine aw_aret dT_knownType_43 rfl (by first | exact Or.inr ⟨_, rfl⟩ | exact Or.inl rfl | exact aw_rf_or _) ?_
        exact h1 i h8 (by omega) hb21 hb34
theorem sp_known {x aA aS aL aT aO aN : Nat} {nS nT : Int} {cT : Nat → Option Nat} {Ty : Int → Nat} {nm vr : Int → Int} {D : Int → Option Nat} {sup : Int → Int} {dl : Nat} {m : Int} (hT : st_T J x aA aS aL aT aO aN nS nT) (hY : st_TY G J aT cT nT Ty nm vr D sup) (hm : iB m) (h1 : ∀ c, 8 ≤ c → c < nT → D c = some dl → nm c = m → Q (.inl (some (.ref (Ty c)))) J) (h0 : (∀ c, 8 ≤ c → c < nT → ¬ (D c = some dl ∧ nm c = m)) → Q (.inl (some .null)) J) : aw_W G mT_knownType d Q 0 [some (.ref x), some (.ref dl), some (.int (iI m)), none] [] J kc ks := by
  refine ai_bipush dT_knownType_0 (by decide +kernel) ?_
  refine aw_istore_n dT_knownType_2 (by decide) rfl ?_
  exact sp_known_l hT hY hm h1 h0 8 hY.2.1.1 (by decide) (fun c q1 q2 => absurd q2 (by omega))
theorem sp_being_l {x aA aS aL aT aO aN : Nat} {nS nT : Int} {oL : Nat → Option Nat} {oN : Int → Int} {dl : Nat} {m N : Int} (hT : st_T J x aA aS aL aT aO aN nS nT) (hO : J aO = some (.inl (G.2.2.1 5, 8, .inr (.inr (.inr (.inr oL)))))) (hNm : J aN = some (.inl (G.2.2.1 0, 8, .inl (fun j : Nat => iI (oN (j : Int)))))) (hob : ∀ j, iB (oN j)) (hN : 0 ≤ N ∧ N ≤ 8) (hm : iB m) (h1 : (∃ j, 0 ≤ j ∧ j < N ∧ oL j.toNat = some dl ∧ oN j = m) → Q (.inl (some (.int (iI 1)))) J) (h0 : ¬ (∃ j, 0 ≤ j ∧ j < N ∧ oL j.toNat = some dl ∧ oN j = m) → Q (.inl (some (.int (iI 0)))) J) : ∀ i : Int, i ≤ N → 0 ≤ i → (∀ j, 0 ≤ j → j < i → ¬ (oL j.toNat = some dl ∧ oN j = m)) → aw_W G mT_isBeingDefined d Q 3 [some (.ref x), some (.ref dl), some (.int (iI m)), some (.int (iI N)), some (.int (iI i))] [] J kc ks := by
  refine il_up N (fun i hi ih hi0 hj => ?_)
  refine aw_iload dT_isBeingDefined_3 rfl ?_
  refine aw_iload_n dT_isBeingDefined_5 rfl ?_
  refine ai_icmp_ge (tgt := 39) dT_isBeingDefined_6 (by decide) (by omega) (by omega) (fun hb6 => ?_) (fun hb6 => ?_)
  · refine ai_iconst dT_isBeingDefined_39 ?_
    refine aw_zret dT_isBeingDefined_40 rfl (by decide +kernel) ?_
    exact h0 (fun z => by obtain ⟨j, q1, q2, q3⟩ := z; exact hj j q1 (by omega) q3)
  · first | refine aw_aload_n dT_isBeingDefined_9 rfl ?_ | refine aw_aload_nQ dT_isBeingDefined_9 rfl ?_ | refine aw_aload_nN dT_isBeingDefined_9 rfl ?_
    refine aw_get dT_isBeingDefined_10 fT_33 hT rfl ?_
    refine aw_iload dT_isBeingDefined_13 rfl ?_
    refine aw_aald dT_isBeingDefined_15 rfl hO (iI_in (by omega) (by omega) (by omega)) ?_
    rw [iI_cl (by omega)]
    first | refine aw_aload_n dT_isBeingDefined_16 rfl ?_ | refine aw_aload_nQ dT_isBeingDefined_16 rfl ?_ | refine aw_aload_nN dT_isBeingDefined_16 rfl ?_
    refine aw_acmp_ne (tgt := 33) (x := oL i.toNat) (y := some dl) dT_isBeingDefined_17 (by decide) (fun hb17 => ?_) (fun hb17 => ?_)
    · refine ai_iinc dT_isBeingDefined_33 rfl (by decide) rfl ?_
      refine aw_goto (tgt := 3) dT_isBeingDefined_36 (by decide) ?_
      refine ih (by omega) (by omega) (fun j q1 q2 => ?_)
      by_cases e : j = i
      · subst e
        first
          | exact fun z => hb17 z.1
          | exact fun z => hb28 z.2
      · exact hj j q1 (by omega)
    · first | refine aw_aload_n dT_isBeingDefined_20 rfl ?_ | refine aw_aload_nQ dT_isBeingDefined_20 rfl ?_ | refine aw_aload_nN dT_isBeingDefined_20 rfl ?_
      refine aw_get dT_isBeingDefined_21 fT_36 hT rfl ?_
      refine aw_iload dT_isBeingDefined_24 rfl ?_
      refine aw_iald dT_isBeingDefined_26 hNm (iI_in (by omega) (by omega) (by omega)) ?_
      rw [iI_cl (by omega), Int.toNat_of_nonneg hi0]
      refine aw_iload_n dT_isBeingDefined_27 rfl ?_
      refine ai_icmp_ne (tgt := 33) dT_isBeingDefined_28 (by decide) (hob i) hm (fun hb28 => ?_) (fun hb28 => ?_)
      · refine ai_iinc dT_isBeingDefined_33 rfl (by decide) rfl ?_
        refine aw_goto (tgt := 3) dT_isBeingDefined_36 (by decide) ?_
        refine ih (by omega) (by omega) (fun j q1 q2 => ?_)
        by_cases e : j = i
        · subst e
          first
            | exact fun z => hb17 z.1
            | exact fun z => hb28 z.2
        · exact hj j q1 (by omega)
      · refine ai_iconst dT_isBeingDefined_31 ?_
        refine aw_zret dT_isBeingDefined_32 rfl (by decide +kernel) ?_
        exact h1 ⟨i, hi0, by omega, hb17, hb28⟩
theorem sp_being {x aA aS aL aT aO aN : Nat} {nS nT : Int} {oL : Nat → Option Nat} {oN : Int → Int} {dl : Nat} {m N : Int} (hT : st_T J x aA aS aL aT aO aN nS nT) (hO : J aO = some (.inl (G.2.2.1 5, 8, .inr (.inr (.inr (.inr oL)))))) (hNm : J aN = some (.inl (G.2.2.1 0, 8, .inl (fun j : Nat => iI (oN (j : Int)))))) (hob : ∀ j, iB (oN j)) (hN : 0 ≤ N ∧ N ≤ 8) (hm : iB m) (h1 : (∃ j, 0 ≤ j ∧ j < N ∧ oL j.toNat = some dl ∧ oN j = m) → Q (.inl (some (.int (iI 1)))) J) (h0 : ¬ (∃ j, 0 ≤ j ∧ j < N ∧ oL j.toNat = some dl ∧ oN j = m) → Q (.inl (some (.int (iI 0)))) J) : aw_W G mT_isBeingDefined d Q 0 [some (.ref x), some (.ref dl), some (.int (iI m)), some (.int (iI N)), none] [] J kc ks := by
  refine ai_iconst dT_isBeingDefined_0 ?_
  refine aw_istore dT_isBeingDefined_1 (by decide) rfl ?_
  exact sp_being_l hT hO hNm hob hN hm h1 h0 0 hN.1 (by decide) (fun j q1 q2 => absurd q2 (by omega))
end ST12
