/-! loader, applied -/
section ST19
variable {G : aw_G} {d : Nat} {Q : aw_O → aw_J → Prop} {J : aw_J} {kc ks : Nat}
theorem sp_loader {x aA aS aL aT aO aN : Nat} {nS nT : Int} {cS : Nat → Option Nat} {a lp ep aa k e2 e3 : Nat} {rp rf r1 r2 r3 : Option Nat} {n i : Int} {l2 l3 e : Int} {t2 t3 : List Value} (hkc : 1 ≤ kc) (hks : 6 ≤ ks) (hT : st_T J x aA aS aL aT aO aN nS nT) (hSA : J aS = some (.inl (G.2.2.1 4, 12, .inr (.inr (.inr (.inr cS)))))) (hn : 0 ≤ nS ∧ nS ≤ 12) (hi : iB i) (hSc : 0 ≤ i ∧ i < nS → cS i.toNat = some a ∧ k < 3 ∧ st_S J a rp lp ep rf (G.2.2.2.1 k) r1 r2 r3 aa n) (he : e = 0 ∨ e = 1) (hld : 0 ≤ i ∧ i < nS → k = 1 → r2 = some e2 ∧ r3 = some e3 ∧ J e2 = some (.inr (4, .int (iI l2) :: t2)) ∧ J e3 = some (.inr (4, .int (iI l3) :: t3))) (hbad : ¬ (0 ≤ i ∧ i < nS) → Q (.inr "java/lang/IllegalArgumentException") J) (hopen : 0 ≤ i ∧ i < nS → ¬ k = 1 → Q (.inl (some (.int (iI (-1))))) J) (hexp : 0 ≤ i ∧ i < nS → k = 1 → e = 1 → Q (.inl (some (.int (iI l2)))) J) (hloc : 0 ≤ i ∧ i < nS → k = 1 → e = 0 → Q (.inl (some (.int (iI l3)))) J) : aw_W G mT_loader (d + 2) Q 0 [some (.ref x), some (.int (iI i)), some (.int (iI e)), none] [] J kc ks := by
  refine aw_ens (fun hen => ?_)
  first | refine aw_aload_n dT_loader_0 rfl ?_ | refine aw_aload_nQ dT_loader_0 rfl ?_ | refine aw_aload_nN dT_loader_0 rfl ?_
  refine aw_iload_n dT_loader_1 rfl ?_
  refine aw_callV1 (mc' := 1) (ms' := 6) (kc' := (kc - 1)) (ks' := (ks - 6)) dT_loader_2 cT_126 hT (Nat.le_of_ble_eq_true rfl) (Nat.le_of_ble_eq_true rfl) (by omega) (by omega) rfl ?_
  refine sp_scopeAt (by omega) (by omega) hT hSA hn hi (fun hr => ?_) (fun hr => ?_)
  · exact hbad hr
  · obtain ⟨hc, hk3, hs⟩ := hSc hr
    rw [hc]
    first | refine aw_astore_n dT_loader_5 (by decide) rfl ?_ | refine aw_astore_nQ dT_loader_5 (by decide) rfl ?_ | refine aw_astore_nN dT_loader_5 (by decide) rfl ?_
    first | refine aw_aload_n dT_loader_6 rfl ?_ | refine aw_aload_nQ dT_loader_6 rfl ?_ | refine aw_aload_nN dT_loader_6 rfl ?_
    refine aw_get dT_loader_7 fT_60 hs rfl ?_
    refine aw_gets (i := 1) dT_loader_10 (by decide) wT_1_183 ?_
    refine aw_acmp_eq (tgt := 18) (x := some (G.2.2.2.1 k)) (y := some (G.2.2.2.1 1)) dT_loader_13 (by decide) (fun hb13 => ?_) (fun hb13 => ?_)
    · have hk1 := hen k 1 hk3 (by decide) (Option.some.inj hb13)
      obtain ⟨g2, g3, j2, j3⟩ := hld hr hk1
      refine aw_iload_n dT_loader_18 rfl ?_
      refine ai_if_eq (tgt := 32) dT_loader_19 (by decide) (by omega) (fun hb19 => ?_) (fun hb19 => ?_)
      · first | refine aw_aload_n dT_loader_32 rfl ?_ | refine aw_aload_nQ dT_loader_32 rfl ?_ | refine aw_aload_nN dT_loader_32 rfl ?_
        refine aw_get dT_loader_33 fT_67 hs rfl ?_
        rw [g3]
        refine aw_get dT_loader_36 fT_192 j3 rfl ?_
        refine aw_iret dT_loader_39 rfl ?_
        first | exact hexp hr hk1 (by omega) | exact hloc hr hk1 (by omega)
      · first | refine aw_aload_n dT_loader_22 rfl ?_ | refine aw_aload_nQ dT_loader_22 rfl ?_ | refine aw_aload_nN dT_loader_22 rfl ?_
        refine aw_get dT_loader_23 fT_63 hs rfl ?_
        rw [g2]
        refine aw_get dT_loader_26 fT_192 j2 rfl ?_
        refine aw_goto (tgt := 39) dT_loader_29 (by decide) ?_
        refine aw_iret dT_loader_39 rfl ?_
        first | exact hexp hr hk1 (by omega) | exact hloc hr hk1 (by omega)
    · refine ai_iconst dT_loader_16 ?_
      refine aw_iret dT_loader_17 rfl ?_
      exact hopen hr (fun z => hb13 (by rw [z]))

theorem sp_applied {x aA aS aL aT aO aN : Nat} {nS nT : Int} {cS : Nat → Option Nat} {a lp ep aa k : Nat} {rp rf r1 r2 r3 : Option Nat} {n i : Int} {ap : Nat → Option Nat} {T : Int → Nat} {N : Int → Int} {j : Int} (hkc : 1 ≤ kc) (hks : 6 ≤ ks) (hT : st_T J x aA aS aL aT aO aN nS nT) (hSA : J aS = some (.inl (G.2.2.1 4, 12, .inr (.inr (.inr (.inr cS)))))) (hn : 0 ≤ nS ∧ nS ≤ 12) (hi : iB i) (hSc : 0 ≤ i ∧ i < nS → cS i.toNat = some a ∧ k < 3 ∧ st_S J a rp lp ep rf (G.2.2.2.1 k) r1 r2 r3 aa n) (hj : iB j) (hap : 0 ≤ i ∧ i < nS → st_AP G J aa ap n T ∧ ∀ j, 0 ≤ j → j < n → ∃ ts, J (T j) = some (.inr (7, .int (iI (N j)) :: ts))) (hbad : ¬ (0 ≤ i ∧ i < nS) → Q (.inr "java/lang/IllegalArgumentException") J) (hno : 0 ≤ i ∧ i < nS → ¬ (0 ≤ j ∧ j < n) → Q (.inl (some (.int (iI (-1))))) J) (hok : 0 ≤ i ∧ i < nS → 0 ≤ j ∧ j < n → Q (.inl (some (.int (iI (N j))))) J) : aw_W G mT_applied (d + 2) Q 0 [some (.ref x), some (.int (iI i)), some (.int (iI j)), none] [] J kc ks := by
  first | refine aw_aload_n dT_applied_0 rfl ?_ | refine aw_aload_nQ dT_applied_0 rfl ?_ | refine aw_aload_nN dT_applied_0 rfl ?_
  refine aw_iload_n dT_applied_1 rfl ?_
  refine aw_callV1 (mc' := 1) (ms' := 6) (kc' := (kc - 1)) (ks' := (ks - 6)) dT_applied_2 cT_126 hT (Nat.le_of_ble_eq_true rfl) (Nat.le_of_ble_eq_true rfl) (by omega) (by omega) rfl ?_
  refine sp_scopeAt (by omega) (by omega) hT hSA hn hi (fun hr => ?_) (fun hr => ?_)
  · exact hbad hr
  · obtain ⟨hc, hk3, hs⟩ := hSc hr
    obtain ⟨hP, hTy⟩ := hap hr
    have hn8 := hP.2.1
    rw [hc]
    first | refine aw_astore_n dT_applied_5 (by decide) rfl ?_ | refine aw_astore_nQ dT_applied_5 (by decide) rfl ?_ | refine aw_astore_nN dT_applied_5 (by decide) rfl ?_
    refine aw_iload_n dT_applied_6 rfl ?_
    first | refine aw_aload_n dT_applied_7 rfl ?_ | refine aw_aload_nQ dT_applied_7 rfl ?_ | refine aw_aload_nN dT_applied_7 rfl ?_
    refine aw_get dT_applied_8 fT_269 hs rfl ?_
    refine aw_callS2 (mc' := 0) (ms' := 0) (kc' := (kc - 1)) (ks' := (ks - 6)) dT_applied_11 cT_80 (Nat.le_of_ble_eq_true rfl) (Nat.le_of_ble_eq_true rfl) (by omega) (by omega) rfl ?_
    refine sp_below hj (by omega) (fun hi11 => ?_) (fun hi11 => ?_)
    · refine ai_if_eq (tgt := 29) dT_applied_14 (by decide) (by omega) (fun hb14 => absurd hb14 (by decide)) (fun _ => ?_)
      first | refine aw_aload_n dT_applied_17 rfl ?_ | refine aw_aload_nQ dT_applied_17 rfl ?_ | refine aw_aload_nN dT_applied_17 rfl ?_
      refine aw_get dT_applied_18 fT_272 hs rfl ?_
      refine aw_iload_n dT_applied_21 rfl ?_
      refine aw_aald dT_applied_22 rfl hP.1 (iI_in (by omega) (by omega) (by omega)) ?_
      obtain ⟨ts, ht⟩ := hTy j (by omega) (by omega)
      rw [iI_cl (by omega), hP.2.2 j (by omega) (by omega)]
      refine aw_get dT_applied_23 fT_224 ht rfl ?_
      refine aw_goto (tgt := 30) dT_applied_26 (by decide) ?_
      refine aw_iret dT_applied_30 rfl ?_
      first | exact hok hr (by omega) | exact hno hr (by omega)
    · refine ai_if_eq (tgt := 29) dT_applied_14 (by decide) (by omega) (fun _ => ?_) (fun hb14 => absurd hb14 (by decide))
      refine ai_iconst dT_applied_29 ?_
      refine aw_iret dT_applied_30 rfl ?_
      first | exact hok hr (by omega) | exact hno hr (by omega)

end ST19
