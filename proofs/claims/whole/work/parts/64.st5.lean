/-! the class: filters, paths, archives: constructors, contains, append, copy -/
section ST5
variable {G : aw_G} {d : Nat} {Q : aw_O → aw_J → Prop} {J : aw_J} {kc ks : Nat}
theorem sp_Finit {a : Nat} {n : Int} {u v : Int64} (hJ : J a = some (.inr (3, [.int 0, .long 0, .long 0]))) (hq : Q (.inl none) (aw_up J a (.inr (3, [.int (iI n), .long u, .long v])))) : aw_W G mF_init (d + 1) Q 0 [some (.ref a), some (.int (iI n)), some (.long u), none, some (.long v), none] [] J kc ks := by
  first | refine aw_aload_n dF_init_0 rfl ?_ | refine aw_aload_nQ dF_init_0 rfl ?_ | refine aw_aload_nN dF_init_0 rfl ?_
  refine aw_callI0 (mc' := 0) (ms' := 0) (kc' := kc) (ks' := ks) dF_init_1 cF_1 (Nat.le_of_ble_eq_true rfl) (Nat.le_of_ble_eq_true rfl) (by omega) (by omega) ?_
  refine sp_Rinit ?_
  first | refine aw_aload_n dF_init_4 rfl ?_ | refine aw_aload_nQ dF_init_4 rfl ?_ | refine aw_aload_nN dF_init_4 rfl ?_
  refine aw_iload_n dF_init_5 rfl ?_
  refine aw_putF dF_init_6 sF_7 rfl hJ rfl rfl (Nat.le_of_ble_eq_true rfl) ?_
  first | refine aw_aload_n dF_init_9 rfl ?_ | refine aw_aload_nQ dF_init_9 rfl ?_ | refine aw_aload_nN dF_init_9 rfl ?_
  refine aw_lload_n dF_init_10 rfl ?_
  refine aw_putF dF_init_11 sF_13 rfl aw_up_s rfl rfl (Nat.le_of_ble_eq_true rfl) ?_
  first | refine aw_aload_n dF_init_14 rfl ?_ | refine aw_aload_nQ dF_init_14 rfl ?_ | refine aw_aload_nN dF_init_14 rfl ?_
  refine aw_lload dF_init_15 rfl ?_
  refine aw_putF dF_init_17 sF_17 rfl aw_up_s rfl rfl (Nat.le_of_ble_eq_true rfl) ?_
  refine aw_vret dF_init_20 rfl ?_
  rw [aw_uu, aw_uu]
  exact hq

/-- a path at p: its array pa, its length n, its archives P -/
def st_P (G : aw_G) (J : aw_J) (p pa : Nat) (n : Int) (P : Int → Int) : Prop := J p = some (.inr (5, [.ref pa, .int (iI n)])) ∧ J pa = some (.inl (G.2.2.1 0, 4, .inl (fun j : Nat => iI (P (j : Int))))) ∧ (0 ≤ n ∧ n ≤ 4) ∧ ∀ k, iB (P k)
theorem sp_Pinit {a : Nat} (hkc : 1 ≤ kc) (hks : 4 ≤ ks) (hJ : J a = some (.inr (5, [.null, .int 0]))) (hq : ∀ q, J q = none → Q (.inl none) (aw_up (aw_up J q (.inl (G.2.2.1 0, 4, .inl (fun _ => 0)))) a (.inr (5, [.ref q, .int 0])))) : aw_W G mP_init d Q 0 [some (.ref a)] [] J kc ks := by
  first | refine aw_aload_n dP_init_0 rfl ?_ | refine aw_aload_nQ dP_init_0 rfl ?_ | refine aw_aload_nN dP_init_0 rfl ?_
  refine aw_oinit dP_init_1 wT_1_133 wOI wOC (Nat.le_of_ble_eq_true rfl) ?_
  first | refine aw_aload_n dP_init_4 rfl ?_ | refine aw_aload_nQ dP_init_4 rfl ?_ | refine aw_aload_nN dP_init_4 rfl ?_
  refine ai_iconst dP_init_5 ?_
  refine aw_newI (N := 4) (kc' := kc - 1) (ks' := ks - 4) dP_init_6 wP_I (by decide) (by decide) (by decide) (by omega) (by omega) (fun q hq1 => ?_)
  refine aw_putF dP_init_8 sP_9 rfl ((aw_up_n (aw_nf hJ hq1)).trans hJ) rfl rfl (Nat.le_of_ble_eq_true rfl) ?_
  refine aw_vret dP_init_11 rfl ?_
  exact hq q hq1

theorem sp_contains_l {p pa : Nat} {n x : Int} {P : Int → Int} (hP : st_P G J p pa n P) (hx : iB x) (h1 : (∃ k, 0 ≤ k ∧ k < n ∧ P k = x) → Q (.inl (some (.int (iI 1)))) J) (h0' : ¬ (∃ k, 0 ≤ k ∧ k < n ∧ P k = x) → Q (.inl (some (.int (iI 0)))) J) : ∀ i : Int, i ≤ n → 0 ≤ i → (∀ j, 0 ≤ j → j < i → ¬ P j = x) → aw_W G mP_contains d Q 2 [some (.ref p), some (.int (iI x)), some (.int (iI i))] [] J kc ks := by
  have hn8 := hP.2.2.1
  refine il_up n (fun i hi ih h0 hj => ?_)
  refine aw_iload_n dP_contains_2 rfl ?_
  first | refine aw_aload_n dP_contains_3 rfl ?_ | refine aw_aload_nQ dP_contains_3 rfl ?_ | refine aw_aload_nN dP_contains_3 rfl ?_
  refine aw_get dP_contains_4 fP_15 hP.1 rfl ?_
  refine ai_icmp_ge (tgt := 28) dP_contains_7 (by decide) (by omega) (by omega) (fun hb7 => ?_) (fun hb7 => ?_)
  · refine ai_iconst dP_contains_28 ?_
    refine aw_zret dP_contains_29 rfl (by decide +kernel) ?_
    exact h0' (fun z => by obtain ⟨k, q1, q2, q3⟩ := z; exact hj k q1 (by omega) q3)
  · first | refine aw_aload_n dP_contains_10 rfl ?_ | refine aw_aload_nQ dP_contains_10 rfl ?_ | refine aw_aload_nN dP_contains_10 rfl ?_
    refine aw_get dP_contains_11 fP_9 hP.1 rfl ?_
    refine aw_iload_n dP_contains_14 rfl ?_
    refine aw_iald dP_contains_15 hP.2.1 (iI_in (by omega) (by omega) (by omega)) ?_
    rw [iI_cl (by omega), Int.toNat_of_nonneg h0]
    have hPb := hP.2.2.2 i
    refine aw_iload_n dP_contains_16 rfl ?_
    refine ai_icmp_ne (tgt := 22) dP_contains_17 (by decide) (by omega) (by omega) (fun hb17 => ?_) (fun hb17 => ?_)
    · refine ai_iinc dP_contains_22 rfl (by decide) rfl ?_
      refine aw_goto (tgt := 2) dP_contains_25 (by decide) ?_
      exact ih (by omega) (by omega) (fun j h1 h2 => by
        by_cases e : j = i
        · rw [e]; omega
        · exact hj j h1 (by omega))
    · refine ai_iconst dP_contains_20 ?_
      refine aw_zret dP_contains_21 rfl (by decide +kernel) ?_
      exact h1 ⟨i, h0, by omega, by omega⟩
theorem sp_contains {p pa : Nat} {n x : Int} {P : Int → Int} (hP : st_P G J p pa n P) (hx : iB x) (h1 : (∃ k, 0 ≤ k ∧ k < n ∧ P k = x) → Q (.inl (some (.int (iI 1)))) J) (h0 : ¬ (∃ k, 0 ≤ k ∧ k < n ∧ P k = x) → Q (.inl (some (.int (iI 0)))) J) : aw_W G mP_contains d Q 0 [some (.ref p), some (.int (iI x)), none] [] J kc ks := by
  refine ai_iconst dP_contains_0 ?_
  refine aw_istore_n dP_contains_1 (by decide) rfl ?_
  exact sp_contains_l hP hx h1 h0 0 hP.2.2.1.1 (by decide) (fun j h1 h2 => absurd h2 (by omega))
theorem sp_append {p pa : Nat} {n x : Int} {P : Int → Int} (hP : st_P G J p pa n P) (hx : iB x) (h0 : ¬ (n < 4 ∧ ¬ (∃ k, 0 ≤ k ∧ k < n ∧ P k = x)) → Q (.inl (some (.int (iI 0)))) J) (h1 : n < 4 → ¬ (∃ k, 0 ≤ k ∧ k < n ∧ P k = x) → Q (.inl (some (.int (iI 1)))) (aw_up (aw_up J pa (.inl (G.2.2.1 0, 4, .inl (fun j : Nat => iI (if (j : Int) = n then x else P (j : Int)))))) p (.inr (5, [.ref pa, .int (iI (n + 1))])))) : aw_W G mP_append (d + 1) Q 0 [some (.ref p), some (.int (iI x))] [] J kc ks := by
  have hn8 := hP.2.2.1
  first | refine aw_aload_n dP_append_0 rfl ?_ | refine aw_aload_nQ dP_append_0 rfl ?_ | refine aw_aload_nN dP_append_0 rfl ?_
  refine aw_get dP_append_1 fP_15 hP.1 rfl ?_
  refine ai_iconst dP_append_4 ?_
  refine ai_icmp_ge (tgt := 16) dP_append_5 (by decide) (by omega) (by omega) (fun hb5 => ?_) (fun hb5 => ?_)
  · refine ai_iconst dP_append_16 ?_
    refine aw_zret dP_append_17 rfl (by decide +kernel) ?_
    first | exact h0 (fun z => z.2 he) | exact h0 (fun z => absurd z.1 (by omega))
  · first | refine aw_aload_n dP_append_8 rfl ?_ | refine aw_aload_nQ dP_append_8 rfl ?_ | refine aw_aload_nN dP_append_8 rfl ?_
    refine aw_iload_n dP_append_9 rfl ?_
    refine aw_callV1 (mc' := 0) (ms' := 0) (kc' := kc) (ks' := ks) dP_append_10 cP_19 hP.1 (Nat.le_of_ble_eq_true rfl) (Nat.le_of_ble_eq_true rfl) (by omega) (by omega) rfl ?_
    refine sp_contains hP hx (fun he => ?_) (fun he => ?_)
    · refine ai_if_eq (tgt := 18) dP_append_13 (by decide) (by omega) (fun hb13 => absurd hb13 (by decide)) (fun _ => ?_)
      refine ai_iconst dP_append_16 ?_
      refine aw_zret dP_append_17 rfl (by decide +kernel) ?_
      first | exact h0 (fun z => z.2 he) | exact h0 (fun z => absurd z.1 (by omega))
    · refine ai_if_eq (tgt := 18) dP_append_13 (by decide) (by omega) (fun _ => ?_) (fun hb13 => absurd hb13 (by decide))
      first | refine aw_aload_n dP_append_18 rfl ?_ | refine aw_aload_nQ dP_append_18 rfl ?_ | refine aw_aload_nN dP_append_18 rfl ?_
      refine aw_get dP_append_19 fP_9 hP.1 rfl ?_
      first | refine aw_aload_n dP_append_22 rfl ?_ | refine aw_aload_nQ dP_append_22 rfl ?_ | refine aw_aload_nN dP_append_22 rfl ?_
      refine aw_get dP_append_23 fP_15 hP.1 rfl ?_
      refine aw_iload_n dP_append_26 rfl ?_
      refine aw_iast dP_append_27 hP.2.1 (iI_in (by omega) (by omega) (by omega)) ?_
      rw [iI_cl (by omega), mo_upd P hn8.1]
      first | refine aw_aload_n dP_append_28 rfl ?_ | refine aw_aload_nQ dP_append_28 rfl ?_ | refine aw_aload_nN dP_append_28 rfl ?_
      refine aw_dup dP_append_29 rfl ?_
      refine aw_get dP_append_30 fP_15 ((aw_up_n (aw_ne hP.1 hP.2.1 (fun h => by cases h))).trans hP.1) rfl ?_
      refine ai_iconst dP_append_33 ?_
      refine ai_iadd dP_append_34 ?_
      refine aw_put dP_append_35 sP_15 ((aw_up_n (aw_ne hP.1 hP.2.1 (fun h => by cases h))).trans hP.1) rfl rfl (Nat.le_of_ble_eq_true rfl) ?_
      refine ai_iconst dP_append_38 ?_
      refine aw_zret dP_append_39 rfl (by decide +kernel) ?_
      exact h1 (by omega) he

theorem sp_Ainit {a : Nat} (hkc : 2 ≤ kc) (hks : 12 ≤ ks) (hJ : J a = some (.inr (0, [.null, .int 0, .null, .int 0]))) (hq : ∀ q r, J q = none → J r = none → q ≠ r → Q (.inl none) (aw_up (aw_up (aw_up J q (.inl (G.2.2.1 7, 8, .inr (.inr (.inr (.inr (fun _ => none))))))) r (.inl (G.2.2.1 8, 4, .inr (.inr (.inr (.inr (fun _ => none))))))) a (.inr (0, [.ref q, .int 0, .ref r, .int 0])))) : aw_W G mA_init d Q 0 [some (.ref a)] [] J kc ks := by
  first | refine aw_aload_n dA_init_0 rfl ?_ | refine aw_aload_nQ dA_init_0 rfl ?_ | refine aw_aload_nN dA_init_0 rfl ?_
  refine aw_oinit dA_init_1 wT_1_42 wOI wOC (Nat.le_of_ble_eq_true rfl) ?_
  first | refine aw_aload_n dA_init_4 rfl ?_ | refine aw_aload_nQ dA_init_4 rfl ?_ | refine aw_aload_nN dA_init_4 rfl ?_
  refine ai_bipush dA_init_5 (by decide +kernel) ?_
  refine aw_newQ (t := 7) (N := 8) (kc' := kc - 1) (ks' := ks - 8) dA_init_7 rfl wT_1_43 (by decide) (by decide) (by decide) (by decide) (by omega) (by omega) (fun q hq1 => ?_)
  refine aw_putF dA_init_10 sA_11 rfl ((aw_up_n (aw_nf hJ hq1)).trans hJ) rfl rfl (Nat.le_of_ble_eq_true rfl) ?_
  first | refine aw_aload_n dA_init_13 rfl ?_ | refine aw_aload_nQ dA_init_13 rfl ?_ | refine aw_aload_nN dA_init_13 rfl ?_
  refine ai_iconst dA_init_14 ?_
  refine aw_newQ (t := 8) (N := 4) (kc' := kc - 2) (ks' := ks - 12) dA_init_15 rfl wT_1_45 (by decide) (by decide) (by decide) (by decide) (by omega) (by omega) (fun r hr1 => ?_)
  have har : a ≠ r := aw_nf (x := _) aw_up_s hr1
  have hr2 : J r = none := by
    rw [aw_up_n (Ne.symm har)] at hr1
    by_cases e : r = q
    · rw [e, aw_up_s] at hr1; cases hr1
    · rw [aw_up_n e] at hr1; exact hr1
  have hqr : q ≠ r := fun e => by
    rw [aw_up_n (Ne.symm har), e, aw_up_s] at hr1; cases hr1
  refine aw_putF dA_init_18 sA_19 rfl ((aw_up_n har).trans aw_up_s) rfl rfl (Nat.le_of_ble_eq_true rfl) ?_
  refine aw_vret dA_init_21 rfl ?_
  rw [aw_uc har, aw_uu]
  exact hq q r hq1 hr2 hqr

end ST5
