/-! the class: hasPathLike, scopes -/
section ST9
variable {G : aw_G} {d : Nat} {Q : aw_O → aw_J → Prop} {J : aw_J} {kc ks : Nat}
theorem sp_pathLike_l {ca N : Nat} {A fA dA : Int → Nat} {cF cD : Int → Nat → Option Nat} {nF nD : Int → Int} {F : Int → Int → Int × Int × Int} {E : Int → Int → Int × Int} {oa N' : Nat} {A' fA' dA' : Int → Nat} {cF' cD' : Int → Nat → Option Nat} {nF' nD' : Int → Int} {F' : Int → Int → Int × Int × Int} {E' : Int → Int → Int × Int} {a : Nat} {l k h dc g : Int} {rp rf : Option Nat} (hO : st_CO G J ca N A fA dA cF cD nF nD F E) (hN : N ≤ 4) (hO' : st_CO G J oa N' A' fA' dA' cF' cD' nF' nD' F' E') (hN' : N' ≤ 4) (hb : ∀ q i, iB (F q i).2.1 ∧ iB (F q i).2.2 ∧ iB (F' q i).2.1 ∧ iB (F' q i).2.2) (hbe : ∀ q i, iB (E q i).2 ∧ iB (E' q i).2) (hu : ∀ q, 0 ≤ q → q < (N' : Int) → ∀ j k, 0 ≤ j → j < nF' q → 0 ≤ k → k < nF' q → (F' q j).1 = (F' q k).1 → j = k) (hue : ∀ q, 0 ≤ q → q < (N' : Int) → ∀ j k, 0 ≤ j → j < nD' q → 0 ≤ k → k < nD' q → (E' q j).1 = (E' q k).1 → j = k) (hL : st_L J a l k rp ca rf h dc g) (hNN : N = N') (h1 : (N = N' ∧ ∀ i, 0 ≤ i → i < (N : Int) → ((nF i = nF' i ∧ nD i = nD' i) ∧ st_lf (nF' i) (F i) (F' i) (nF i) ∧ st_le (nD' i) (E i) (E' i) (nD i))) → Q (.inl (some (.int (iI 1)))) J) (h0' : ¬ (N = N' ∧ ∀ i, 0 ≤ i → i < (N : Int) → ((nF i = nF' i ∧ nD i = nD' i) ∧ st_lf (nF' i) (F i) (F' i) (nF i) ∧ st_le (nD' i) (E i) (E' i) (nD i))) → Q (.inl (some (.int (iI 0)))) J) : ∀ i : Int, i ≤ (N : Int) → 0 ≤ i → (∀ j, 0 ≤ j → j < i → ((nF j = nF' j ∧ nD j = nD' j) ∧ st_lf (nF' j) (F j) (F' j) (nF j) ∧ st_le (nD' j) (E j) (E' j) (nD j))) → aw_W G mL_hasPathLike (d + 1 + 1 + 1) Q 14 [some (.ref a), some (.ref oa), some (.int (iI i))] [] J kc ks := by
  obtain ⟨co, hco, hcA⟩ := hO.1
  obtain ⟨co', hco', hcA'⟩ := hO'.1
  refine il_up (N : Int) (fun i hi ih h0 hj => ?_)
  refine aw_iload_n dL_hasPathLike_14 rfl ?_
  first | refine aw_aload_n dL_hasPathLike_15 rfl ?_ | refine aw_aload_nQ dL_hasPathLike_15 rfl ?_ | refine aw_aload_nN dL_hasPathLike_15 rfl ?_
  refine aw_get dL_hasPathLike_16 fL_20 hL rfl ?_
  refine aw_alen dL_hasPathLike_19 rfl hco ?_
  rw [show Int32.ofNat N = iI (N : Int) from iI_ofNat N]
  refine ai_icmp_ge (tgt := 46) dL_hasPathLike_20 (by decide) (by omega) (by omega) (fun hb20 => ?_) (fun hb20 => ?_)
  · refine ai_iconst dL_hasPathLike_46 ?_
    refine aw_zret dL_hasPathLike_47 rfl (by decide +kernel) ?_
    exact h1 ⟨hNN, fun j q1 q2 => hj j q1 (by omega)⟩
  · first | refine aw_aload_n dL_hasPathLike_23 rfl ?_ | refine aw_aload_nQ dL_hasPathLike_23 rfl ?_ | refine aw_aload_nN dL_hasPathLike_23 rfl ?_
    refine aw_get dL_hasPathLike_24 fL_20 hL rfl ?_
    refine aw_iload_n dL_hasPathLike_27 rfl ?_
    have hr := hO.2 i h0 (by omega)
    have hr' := hO'.2 i h0 (by omega)
    refine aw_aald dL_hasPathLike_28 rfl hco (iI_in (by omega) (by omega) (by omega)) ?_
    rw [iI_cl (by omega), hcA i h0 (by omega)]
    first | refine aw_aload_n dL_hasPathLike_29 rfl ?_ | refine aw_aload_nQ dL_hasPathLike_29 rfl ?_ | refine aw_aload_nN dL_hasPathLike_29 rfl ?_
    refine aw_iload_n dL_hasPathLike_30 rfl ?_
    refine aw_aald dL_hasPathLike_31 rfl hco' (iI_in (by omega) (by omega) (by omega)) ?_
    rw [iI_cl (by omega), hcA' i h0 (by omega)]
    refine aw_callVN1 (mc' := 0) (ms' := 0) (kc' := kc) (ks' := ks) dL_hasPathLike_32 cL_38 hr.1.1 (Nat.le_of_ble_eq_true rfl) (Nat.le_of_ble_eq_true rfl) (by omega) (by omega) ?_
    refine sp_isLike hr.1 hr'.1 hr.2.1 hr'.2.1 (hb i) (hu i h0 (by omega)) hr.2.2 hr'.2.2 (hbe i) (hue i h0 (by omega)) (fun hs => ?_) (fun hs => ?_)
    · refine ai_if_ne (tgt := 40) dL_hasPathLike_35 (by decide) (by omega) (fun _ => ?_) (fun hb35 => absurd hb35 (by decide))
      refine ai_iinc dL_hasPathLike_40 rfl (by decide) rfl ?_
      refine aw_goto (tgt := 14) dL_hasPathLike_43 (by decide) ?_
      refine ih (by omega) (by omega) (fun j q1 q2 => ?_)
      by_cases e : j = i
      · subst e; exact hs
      · exact hj j q1 (by omega)
    · refine ai_if_ne (tgt := 40) dL_hasPathLike_35 (by decide) (by omega) (fun hb35 => absurd hb35 (by decide)) (fun _ => ?_)
      refine ai_iconst dL_hasPathLike_38 ?_
      refine aw_zret dL_hasPathLike_39 rfl (by decide +kernel) ?_
      exact h0' (fun z => hs (z.2 i h0 (by omega)))
theorem sp_pathLike {ca N : Nat} {A fA dA : Int → Nat} {cF cD : Int → Nat → Option Nat} {nF nD : Int → Int} {F : Int → Int → Int × Int × Int} {E : Int → Int → Int × Int} {oa N' : Nat} {A' fA' dA' : Int → Nat} {cF' cD' : Int → Nat → Option Nat} {nF' nD' : Int → Int} {F' : Int → Int → Int × Int × Int} {E' : Int → Int → Int × Int} {a : Nat} {l k h dc g : Int} {rp rf : Option Nat} (hO : st_CO G J ca N A fA dA cF cD nF nD F E) (hN : N ≤ 4) (hO' : st_CO G J oa N' A' fA' dA' cF' cD' nF' nD' F' E') (hN' : N' ≤ 4) (hb : ∀ q i, iB (F q i).2.1 ∧ iB (F q i).2.2 ∧ iB (F' q i).2.1 ∧ iB (F' q i).2.2) (hbe : ∀ q i, iB (E q i).2 ∧ iB (E' q i).2) (hu : ∀ q, 0 ≤ q → q < (N' : Int) → ∀ j k, 0 ≤ j → j < nF' q → 0 ≤ k → k < nF' q → (F' q j).1 = (F' q k).1 → j = k) (hue : ∀ q, 0 ≤ q → q < (N' : Int) → ∀ j k, 0 ≤ j → j < nD' q → 0 ≤ k → k < nD' q → (E' q j).1 = (E' q k).1 → j = k) (hL : st_L J a l k rp ca rf h dc g) (h1 : (N = N' ∧ ∀ i, 0 ≤ i → i < (N : Int) → ((nF i = nF' i ∧ nD i = nD' i) ∧ st_lf (nF' i) (F i) (F' i) (nF i) ∧ st_le (nD' i) (E i) (E' i) (nD i))) → Q (.inl (some (.int (iI 1)))) J) (h0 : ¬ (N = N' ∧ ∀ i, 0 ≤ i → i < (N : Int) → ((nF i = nF' i ∧ nD i = nD' i) ∧ st_lf (nF' i) (F i) (F' i) (nF i) ∧ st_le (nD' i) (E i) (E' i) (nD i))) → Q (.inl (some (.int (iI 0)))) J) : aw_W G mL_hasPathLike (d + 1 + 1 + 1) Q 0 [some (.ref a), some (.ref oa), none] [] J kc ks := by
  obtain ⟨co, hco, hcA⟩ := hO.1
  obtain ⟨co', hco', hcA'⟩ := hO'.1
  first | refine aw_aload_n dL_hasPathLike_0 rfl ?_ | refine aw_aload_nQ dL_hasPathLike_0 rfl ?_ | refine aw_aload_nN dL_hasPathLike_0 rfl ?_
  refine aw_get dL_hasPathLike_1 fL_20 hL rfl ?_
  refine aw_alen dL_hasPathLike_4 rfl hco ?_
  first | refine aw_aload_n dL_hasPathLike_5 rfl ?_ | refine aw_aload_nQ dL_hasPathLike_5 rfl ?_ | refine aw_aload_nN dL_hasPathLike_5 rfl ?_
  refine aw_alen dL_hasPathLike_6 rfl hco' ?_
  rw [show Int32.ofNat N = iI (N : Int) from iI_ofNat N, show Int32.ofNat N' = iI (N' : Int) from iI_ofNat N']
  refine ai_icmp_eq (tgt := 12) dL_hasPathLike_7 (by decide) (by omega) (by omega) (fun hb7 => ?_) (fun hb7 => ?_)
  · refine ai_iconst dL_hasPathLike_12 ?_
    refine aw_istore_n dL_hasPathLike_13 (by decide) rfl ?_
    exact sp_pathLike_l hO hN hO' hN' hb hbe hu hue hL (by omega) h1 h0 0 (by omega) (by decide) (fun j q1 q2 => absurd q2 (by omega))
  · refine ai_iconst dL_hasPathLike_10 ?_
    refine aw_zret dL_hasPathLike_11 rfl (by decide +kernel) ?_
    exact h0 (fun z => by have := z.1; omega)
/-- a scope at a: parent, two paths, filter, state's constant, three loaders, the row of applied types and their number -/
def st_S (J : aw_J) (a : Nat) (rp : Option Nat) (lp ep : Nat) (rf : Option Nat) (st : Nat) (r1 r2 r3 : Option Nat) (aa : Nat) (n : Int) : Prop := J a = some (.inr (6, [va_rf rp, .ref lp, .ref ep, va_rf rf, .ref st, va_rf r1, va_rf r2, va_rf r3, .ref aa, .int (iI n)]))
/-- the row of applied types: n of them, at T i -/
def st_AP (G : aw_G) (J : aw_J) (aa : Nat) (ap : Nat → Option Nat) (n : Int) (T : Int → Nat) : Prop := J aa = some (.inl (G.2.2.1 6, 8, .inr (.inr (.inr (.inr ap))))) ∧ (0 ≤ n ∧ n ≤ 8) ∧ ∀ i, 0 ≤ i → i < n → ap i.toNat = some (T i)
theorem sp_hasApplied_l {a lp ep st aa : Nat} {rp rf r1 r2 r3 : Option Nat} {n : Int} {ap : Nat → Option Nat} {T : Int → Nat} {t : Nat} (hS : st_S J a rp lp ep rf st r1 r2 r3 aa n) (hP : st_AP G J aa ap n T) (h1 : (∃ i, 0 ≤ i ∧ i < n ∧ T i = t) → Q (.inl (some (.int (iI 1)))) J) (h0' : ¬ (∃ i, 0 ≤ i ∧ i < n ∧ T i = t) → Q (.inl (some (.int (iI 0)))) J) : ∀ i : Int, i ≤ n → 0 ≤ i → (∀ j, 0 ≤ j → j < i → ¬ T j = t) → aw_W G mS_hasApplied d Q 2 [some (.ref a), some (.ref t), some (.int (iI i))] [] J kc ks := by
  have hn8 := hP.2.1
  refine il_up n (fun i hi ih h0 hj => ?_)
  refine aw_iload_n dS_hasApplied_2 rfl ?_
  first | refine aw_aload_n dS_hasApplied_3 rfl ?_ | refine aw_aload_nQ dS_hasApplied_3 rfl ?_ | refine aw_aload_nN dS_hasApplied_3 rfl ?_
  refine aw_get dS_hasApplied_4 fS_40 hS rfl ?_
  refine ai_icmp_ge (tgt := 28) dS_hasApplied_7 (by decide) (by omega) (by omega) (fun hb7 => ?_) (fun hb7 => ?_)
  · refine ai_iconst dS_hasApplied_28 ?_
    refine aw_zret dS_hasApplied_29 rfl (by decide +kernel) ?_
    exact h0' (fun z => by obtain ⟨k, q1, q2, q3⟩ := z; exact hj k q1 (by omega) q3)
  · first | refine aw_aload_n dS_hasApplied_10 rfl ?_ | refine aw_aload_nQ dS_hasApplied_10 rfl ?_ | refine aw_aload_nN dS_hasApplied_10 rfl ?_
    refine aw_get dS_hasApplied_11 fS_32 hS rfl ?_
    refine aw_iload_n dS_hasApplied_14 rfl ?_
    refine aw_aald dS_hasApplied_15 rfl hP.1 (iI_in (by omega) (by omega) (by omega)) ?_
    rw [iI_cl (by omega), hP.2.2 i h0 (by omega)]
    first | refine aw_aload_n dS_hasApplied_16 rfl ?_ | refine aw_aload_nQ dS_hasApplied_16 rfl ?_ | refine aw_aload_nN dS_hasApplied_16 rfl ?_
    refine aw_acmp_ne (tgt := 22) (x := some (T i)) (y := some t) dS_hasApplied_17 (by decide) (fun hb17 => ?_) (fun hb17 => ?_)
    · refine ai_iinc dS_hasApplied_22 rfl (by decide) rfl ?_
      refine aw_goto (tgt := 2) dS_hasApplied_25 (by decide) ?_
      refine ih (by omega) (by omega) (fun j q1 q2 => ?_)
      by_cases e : j = i
      · subst e; exact fun z => hb17 (by rw [z])
      · exact hj j q1 (by omega)
    · refine ai_iconst dS_hasApplied_20 ?_
      refine aw_zret dS_hasApplied_21 rfl (by decide +kernel) ?_
      exact h1 ⟨i, h0, by omega, Option.some.inj hb17⟩
theorem sp_hasApplied {a lp ep st aa : Nat} {rp rf r1 r2 r3 : Option Nat} {n : Int} {ap : Nat → Option Nat} {T : Int → Nat} {t : Nat} (hS : st_S J a rp lp ep rf st r1 r2 r3 aa n) (hP : st_AP G J aa ap n T) (h1 : (∃ i, 0 ≤ i ∧ i < n ∧ T i = t) → Q (.inl (some (.int (iI 1)))) J) (h0 : ¬ (∃ i, 0 ≤ i ∧ i < n ∧ T i = t) → Q (.inl (some (.int (iI 0)))) J) : aw_W G mS_hasApplied d Q 0 [some (.ref a), some (.ref t), none] [] J kc ks := by
  refine ai_iconst dS_hasApplied_0 ?_
  refine aw_istore_n dS_hasApplied_1 (by decide) rfl ?_
  exact sp_hasApplied_l hS hP h1 h0 0 hP.2.1.1 (by decide) (fun j h1 h2 => absurd h2 (by omega))
theorem sp_appendApplied {a lp ep st aa : Nat} {rp rf r1 r2 r3 : Option Nat} {n : Int} {ap : Nat → Option Nat} {T : Int → Nat} {t : Nat} {ys : List Value} (hS : st_S J a rp lp ep rf st r1 r2 r3 aa n) (hP : st_AP G J aa ap n T) (ht : J t = some (.inr (7, ys))) (h0 : n = 8 → Q (.inl (some (.int (iI 0)))) J) (h1 : n < 8 → Q (.inl (some (.int (iI 1)))) (aw_up (aw_up J aa (.inl (G.2.2.1 6, 8, .inr (.inr (.inr (.inr (va_up ap n.toNat (some t)))))))) a (.inr (6, [va_rf rp, .ref lp, .ref ep, va_rf rf, .ref st, va_rf r1, va_rf r2, va_rf r3, .ref aa, .int (iI (n + 1))])))) : aw_W G mS_appendApplied d Q 0 [some (.ref a), some (.ref t)] [] J kc ks := by
  have hn8 := hP.2.1
  first | refine aw_aload_n dS_appendApplied_0 rfl ?_ | refine aw_aload_nQ dS_appendApplied_0 rfl ?_ | refine aw_aload_nN dS_appendApplied_0 rfl ?_
  refine aw_get dS_appendApplied_1 fS_40 hS rfl ?_
  refine ai_bipush dS_appendApplied_4 (by decide +kernel) ?_
  refine ai_icmp_lt (tgt := 11) dS_appendApplied_6 (by decide) (by omega) (by omega) (fun hb6 => ?_) (fun hb6 => ?_)
  · first | refine aw_aload_n dS_appendApplied_11 rfl ?_ | refine aw_aload_nQ dS_appendApplied_11 rfl ?_ | refine aw_aload_nN dS_appendApplied_11 rfl ?_
    refine aw_get dS_appendApplied_12 fS_32 hS rfl ?_
    first | refine aw_aload_n dS_appendApplied_15 rfl ?_ | refine aw_aload_nQ dS_appendApplied_15 rfl ?_ | refine aw_aload_nN dS_appendApplied_15 rfl ?_
    refine aw_get dS_appendApplied_16 fS_40 hS rfl ?_
    first | refine aw_aload_n dS_appendApplied_19 rfl ?_ | refine aw_aload_nQ dS_appendApplied_19 rfl ?_ | refine aw_aload_nN dS_appendApplied_19 rfl ?_
    refine aw_aast dS_appendApplied_20 rfl rfl hP.1 ht (iI_in (by omega) (by omega) (by omega)) ?_
    rw [iI_cl (by omega)]
    first | refine aw_aload_n dS_appendApplied_21 rfl ?_ | refine aw_aload_nQ dS_appendApplied_21 rfl ?_ | refine aw_aload_nN dS_appendApplied_21 rfl ?_
    refine aw_dup dS_appendApplied_22 rfl ?_
    refine aw_get dS_appendApplied_23 fS_40 ((aw_up_n (aw_ne hS hP.1 (fun h => by cases h))).trans hS) rfl ?_
    refine ai_iconst dS_appendApplied_26 ?_
    refine ai_iadd dS_appendApplied_27 ?_
    refine aw_put dS_appendApplied_28 sS_40 ((aw_up_n (aw_ne hS hP.1 (fun h => by cases h))).trans hS) rfl rfl (Nat.le_of_ble_eq_true rfl) ?_
    refine ai_iconst dS_appendApplied_31 ?_
    refine aw_zret dS_appendApplied_32 rfl (by decide +kernel) ?_
    exact h1 (by omega)
  · refine ai_iconst dS_appendApplied_9 ?_
    refine aw_zret dS_appendApplied_10 rfl (by decide +kernel) ?_
    exact h0 (by omega)

end ST9
