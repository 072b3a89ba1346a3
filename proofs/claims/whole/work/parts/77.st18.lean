/-! hasChildLeft -/
section ST18
variable {G : aw_G} {d : Nat} {Q : aw_O → aw_J → Prop} {J : aw_J} {kc ks : Nat}
theorem sp_child_l {x aA aS aL aT aO aN : Nat} {nS nT : Int} {cS : Nat → Option Nat} {Sc lp ep aa : Int → Nat} {k : Int → Nat} {rp rf r1 r2 r3 : Int → Option Nat} {na : Int → Int} {ps : Nat} (hT : st_T J x aA aS aL aT aO aN nS nT) (hSA : J aS = some (.inl (G.2.2.1 4, 12, .inr (.inr (.inr (.inr cS)))))) (hn : 0 ≤ nS ∧ nS ≤ 12) (hS : ∀ i, 0 ≤ i → i < nS → cS i.toNat = some (Sc i) ∧ k i < 3 ∧ st_S J (Sc i) (rp i) (lp i) (ep i) (rf i) (G.2.2.2.1 (k i)) (r1 i) (r2 i) (r3 i) (aa i) (na i)) (h1 : (∃ i, 0 ≤ i ∧ i < nS ∧ rp i = some ps ∧ ¬ k i = 2) → Q (.inl (some (.int (iI 1)))) J) (h0' : ¬ (∃ i, 0 ≤ i ∧ i < nS ∧ rp i = some ps ∧ ¬ k i = 2) → Q (.inl (some (.int (iI 0)))) J) (he : ∀ i j, i < 3 → j < 3 → G.2.2.2.1 i = G.2.2.2.1 j → i = j) : ∀ i : Int, i ≤ nS → 0 ≤ i → (∀ j, 0 ≤ j → j < i → ¬ (rp j = some ps ∧ ¬ k j = 2)) → aw_W G mT_hasChildLeft d Q 2 [some (.ref x), some (.ref ps), some (.int (iI i))] [] J kc ks := by
  refine il_up nS (fun i hi ih h0 hj => ?_)
  refine aw_iload_n dT_hasChildLeft_2 rfl ?_
  first | refine aw_aload_n dT_hasChildLeft_3 rfl ?_ | refine aw_aload_nQ dT_hasChildLeft_3 rfl ?_ | refine aw_aload_nN dT_hasChildLeft_3 rfl ?_
  refine aw_get dT_hasChildLeft_4 fT_73 hT rfl ?_
  refine ai_icmp_ge (tgt := 46) dT_hasChildLeft_7 (by decide) (by omega) (by omega) (fun hb7 => ?_) (fun hb7 => ?_)
  · refine ai_iconst dT_hasChildLeft_46 ?_
    refine aw_zret dT_hasChildLeft_47 rfl (by decide +kernel) ?_
    exact h0' (fun z => by obtain ⟨j, q1, q2, q3⟩ := z; exact hj j q1 (by omega) q3)
  · first | refine aw_aload_n dT_hasChildLeft_10 rfl ?_ | refine aw_aload_nQ dT_hasChildLeft_10 rfl ?_ | refine aw_aload_nN dT_hasChildLeft_10 rfl ?_
    obtain ⟨hc, hk3, hs⟩ := hS i h0 (by omega)
    refine aw_get dT_hasChildLeft_11 fT_17 hT rfl ?_
    refine aw_iload_n dT_hasChildLeft_14 rfl ?_
    refine aw_aald dT_hasChildLeft_15 rfl hSA (iI_in (by omega) (by omega) (by omega)) ?_
    rw [iI_cl (by omega), hc]
    refine aw_get dT_hasChildLeft_16 fT_166 hs rfl ?_
    first | refine aw_aload_n dT_hasChildLeft_19 rfl ?_ | refine aw_aload_nQ dT_hasChildLeft_19 rfl ?_ | refine aw_aload_nN dT_hasChildLeft_19 rfl ?_
    refine aw_acmp_ne (tgt := 40) (x := rp i) (y := some ps) dT_hasChildLeft_20 (by decide) (fun hb20 => ?_) (fun hb20 => ?_)
    · refine ai_iinc dT_hasChildLeft_40 rfl (by decide) rfl ?_
      refine aw_goto (tgt := 2) dT_hasChildLeft_43 (by decide) ?_
      refine ih (by omega) (by omega) (fun j q1 q2 => ?_)
      by_cases e : j = i
      · subst e
        first
          | exact fun z => hb20 z.1
          | exact fun z => z.2 (he _ 2 hk3 (by decide) (Option.some.inj hb35))
      · exact hj j q1 (by omega)
    · first | refine aw_aload_n dT_hasChildLeft_23 rfl ?_ | refine aw_aload_nQ dT_hasChildLeft_23 rfl ?_ | refine aw_aload_nN dT_hasChildLeft_23 rfl ?_
      refine aw_get dT_hasChildLeft_24 fT_17 hT rfl ?_
      refine aw_iload_n dT_hasChildLeft_27 rfl ?_
      refine aw_aald dT_hasChildLeft_28 rfl hSA (iI_in (by omega) (by omega) (by omega)) ?_
      rw [iI_cl (by omega), hc]
      refine aw_get dT_hasChildLeft_29 fT_60 hs rfl ?_
      refine aw_gets (i := 2) dT_hasChildLeft_32 (by decide) wT_2_162 ?_
      refine aw_acmp_eq (tgt := 40) (x := some (G.2.2.2.1 (k i))) (y := some (G.2.2.2.1 2)) dT_hasChildLeft_35 (by decide) (fun hb35 => ?_) (fun hb35 => ?_)
      · refine ai_iinc dT_hasChildLeft_40 rfl (by decide) rfl ?_
        refine aw_goto (tgt := 2) dT_hasChildLeft_43 (by decide) ?_
        refine ih (by omega) (by omega) (fun j q1 q2 => ?_)
        by_cases e : j = i
        · subst e
          first
            | exact fun z => hb20 z.1
            | exact fun z => z.2 (he _ 2 hk3 (by decide) (Option.some.inj hb35))
        · exact hj j q1 (by omega)
      · refine ai_iconst dT_hasChildLeft_38 ?_
        refine aw_zret dT_hasChildLeft_39 rfl (by decide +kernel) ?_
        exact h1 ⟨i, h0, by omega, hb20, fun z => hb35 (by rw [z])⟩
theorem sp_childLeft {x aA aS aL aT aO aN : Nat} {nS nT : Int} {cS : Nat → Option Nat} {Sc lp ep aa : Int → Nat} {k : Int → Nat} {rp rf r1 r2 r3 : Int → Option Nat} {na : Int → Int} {ps : Nat} (hT : st_T J x aA aS aL aT aO aN nS nT) (hSA : J aS = some (.inl (G.2.2.1 4, 12, .inr (.inr (.inr (.inr cS)))))) (hn : 0 ≤ nS ∧ nS ≤ 12) (hS : ∀ i, 0 ≤ i → i < nS → cS i.toNat = some (Sc i) ∧ k i < 3 ∧ st_S J (Sc i) (rp i) (lp i) (ep i) (rf i) (G.2.2.2.1 (k i)) (r1 i) (r2 i) (r3 i) (aa i) (na i)) (h1 : (∃ i, 0 ≤ i ∧ i < nS ∧ rp i = some ps ∧ ¬ k i = 2) → Q (.inl (some (.int (iI 1)))) J) (h0 : ¬ (∃ i, 0 ≤ i ∧ i < nS ∧ rp i = some ps ∧ ¬ k i = 2) → Q (.inl (some (.int (iI 0)))) J) : aw_W G mT_hasChildLeft d Q 0 [some (.ref x), some (.ref ps), none] [] J kc ks := by
  refine aw_ens (fun he => ?_)
  refine ai_iconst dT_hasChildLeft_0 ?_
  refine aw_istore_n dT_hasChildLeft_1 (by decide) rfl ?_
  exact sp_child_l hT hSA hn hS h1 h0 he 0 hn.1 (by decide) (fun j q1 q2 => absurd q2 (by omega))
end ST18
