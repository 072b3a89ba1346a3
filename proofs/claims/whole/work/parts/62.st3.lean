/-! the class: archives, records -/
section ST3
variable {G : aw_G} {d : Nat} {Q : aw_O → aw_J → Prop} {J : aw_J} {kc ks : Nat}
theorem sp_placeD_l {a fa da : Nat} {cf cd : Nat → Option Nat} {n m x : Int} {E : Int → Int × Int} (hA : st_A G J a fa da cf cd n m) (hE : st_DE J cd m E) (hx : iB x) (hk : ∀ k, mo_lst (fun j => (E j).1 = x) m k → Q (.inl (some (.int (iI k)))) J) : ∀ i : Int, i ≤ m → 0 ≤ i → (∀ j, 0 ≤ j → j < i → ¬ (E j).1 = x) → aw_W G mA_placeOfDescriptor d Q 2 [some (.ref a), some (.int (iI x)), some (.int (iI i))] [] J kc ks := by
  have hn8 := hA.2.2.2.2
  refine il_up m (fun i hi ih h0 hj => ?_)
  refine aw_iload_n dA_placeOfDescriptor_2 rfl ?_
  first | refine aw_aload_n dA_placeOfDescriptor_3 rfl ?_ | refine aw_aload_nQ dA_placeOfDescriptor_3 rfl ?_ | refine aw_aload_nN dA_placeOfDescriptor_3 rfl ?_
  refine aw_get dA_placeOfDescriptor_4 fA_34 hA.1 rfl ?_
  refine ai_icmp_ge (tgt := 29) dA_placeOfDescriptor_7 (by decide) (by omega) (by omega) (fun hb7 => ?_) (fun hb7 => ?_)
  · refine aw_iload_n dA_placeOfDescriptor_29 rfl ?_
    refine aw_iret dA_placeOfDescriptor_30 rfl ?_
    exact hk i (by first | exact ⟨by omega, by omega, hj, fun _ => by omega⟩ | exact ⟨by omega, by omega, hj, fun h => absurd h (by omega)⟩)
  · first | refine aw_aload_n dA_placeOfDescriptor_10 rfl ?_ | refine aw_aload_nQ dA_placeOfDescriptor_10 rfl ?_ | refine aw_aload_nN dA_placeOfDescriptor_10 rfl ?_
    refine aw_get dA_placeOfDescriptor_11 fA_19 hA.1 rfl ?_
    refine aw_iload_n dA_placeOfDescriptor_14 rfl ?_
    obtain ⟨hFb, c, hc1, hc2⟩ := hE i h0 (by omega)
    refine aw_aald dA_placeOfDescriptor_15 rfl hA.2.2.1 (iI_in (by omega) (by omega) (by omega)) ?_
    rw [iI_cl (by omega), hc1]
    refine aw_get dA_placeOfDescriptor_16 fA_46 hc2 rfl ?_
    refine aw_iload_n dA_placeOfDescriptor_19 rfl ?_
    refine ai_icmp_eq (tgt := 29) dA_placeOfDescriptor_20 (by decide) (by omega) (by omega) (fun hb20 => ?_) (fun hb20 => ?_)
    · refine aw_iload_n dA_placeOfDescriptor_29 rfl ?_
      refine aw_iret dA_placeOfDescriptor_30 rfl ?_
      exact hk i (by first | exact ⟨by omega, by omega, hj, fun _ => by omega⟩ | exact ⟨by omega, by omega, hj, fun h => absurd h (by omega)⟩)
    · refine ai_iinc dA_placeOfDescriptor_23 rfl (by decide) rfl ?_
      refine aw_goto (tgt := 2) dA_placeOfDescriptor_26 (by decide) ?_
      exact ih (by omega) (by omega) (fun j h1 h2 => by
        by_cases e : j = i
        · rw [e]; omega
        · exact hj j h1 (by omega))
theorem sp_placeD {a fa da : Nat} {cf cd : Nat → Option Nat} {n m x : Int} {E : Int → Int × Int} (hA : st_A G J a fa da cf cd n m) (hE : st_DE J cd m E) (hx : iB x) (hk : ∀ k, mo_lst (fun j => (E j).1 = x) m k → Q (.inl (some (.int (iI k)))) J) : aw_W G mA_placeOfDescriptor d Q 0 [some (.ref a), some (.int (iI x)), none] [] J kc ks := by
  refine ai_iconst dA_placeOfDescriptor_0 ?_
  refine aw_istore_n dA_placeOfDescriptor_1 (by decide) rfl ?_
  exact sp_placeD_l hA hE hx hk 0 hA.2.2.2.2.1 (by decide) (fun j h1 h2 => absurd h2 (by omega))
theorem sp_putD {a fa da : Nat} {cf cd : Nat → Option Nat} {n m x : Int} {E : Int → Int × Int} {q : Nat} {y : Value} (hA : st_A G J a fa da cf cd n m) (hE : st_DE J cd m E) (hx : iB x) (hq1 : J q = some (.inr (2, [.int (iI x), y]))) (hfull : ∀ k, mo_lst (fun j => (E j).1 = x) m k → k = 4 → Q (.inl (some (.int (iI 0)))) J) (hok : ∀ k, mo_lst (fun j => (E j).1 = x) m k → k < 4 → Q (.inl (some (.int (iI 1)))) (aw_up (aw_up J da (.inl (G.2.2.1 8, 4, .inr (.inr (.inr (.inr (va_up cd k.toNat (some q)))))))) a (.inr (0, [.ref fa, .int (iI n), .ref da, .int (iI (if m < k + 1 then k + 1 else m))])))) : aw_W G mA_putDescriptor (d + 1) Q 0 [some (.ref a), some (.ref q), none] [] J kc ks := by
  first | refine aw_aload_n dA_putDescriptor_0 rfl ?_ | refine aw_aload_nQ dA_putDescriptor_0 rfl ?_ | refine aw_aload_nN dA_putDescriptor_0 rfl ?_
  first | refine aw_aload_n dA_putDescriptor_1 rfl ?_ | refine aw_aload_nQ dA_putDescriptor_1 rfl ?_ | refine aw_aload_nN dA_putDescriptor_1 rfl ?_
  refine aw_get dA_putDescriptor_2 fA_46 hq1 rfl ?_
  refine aw_callV1 (mc' := 0) (ms' := 0) (kc' := kc) (ks' := ks) dA_putDescriptor_5 cA_31 hA.1 (Nat.le_of_ble_eq_true rfl) (Nat.le_of_ble_eq_true rfl) (by omega) (by omega) rfl ?_
  refine sp_placeD hA hE hx (fun k hk => ?_)
  have hk1 := hk.1
  have hk2 := hk.2.1
  have hn8 := hA.2.2.2.2
  refine aw_istore_n dA_putDescriptor_8 (by decide) rfl ?_
  refine aw_iload_n dA_putDescriptor_9 rfl ?_
  refine ai_iconst dA_putDescriptor_10 ?_
  refine ai_icmp_lt (tgt := 16) dA_putDescriptor_11 (by decide) (by omega) (by omega) (fun hb11 => ?_) (fun hb11 => ?_)
  · first | refine aw_aload_n dA_putDescriptor_16 rfl ?_ | refine aw_aload_nQ dA_putDescriptor_16 rfl ?_ | refine aw_aload_nN dA_putDescriptor_16 rfl ?_
    refine aw_get dA_putDescriptor_17 fA_19 hA.1 rfl ?_
    refine aw_iload_n dA_putDescriptor_20 rfl ?_
    first | refine aw_aload_n dA_putDescriptor_21 rfl ?_ | refine aw_aload_nQ dA_putDescriptor_21 rfl ?_ | refine aw_aload_nN dA_putDescriptor_21 rfl ?_
    refine aw_aast dA_putDescriptor_22 rfl rfl hA.2.2.1 hq1 (iI_in (by omega) (by omega) (by omega)) ?_
    first | refine aw_aload_n dA_putDescriptor_23 rfl ?_ | refine aw_aload_nQ dA_putDescriptor_23 rfl ?_ | refine aw_aload_nN dA_putDescriptor_23 rfl ?_
    first | refine aw_aload_n dA_putDescriptor_24 rfl ?_ | refine aw_aload_nQ dA_putDescriptor_24 rfl ?_ | refine aw_aload_nN dA_putDescriptor_24 rfl ?_
    rw [iI_cl (by omega)]
    refine aw_get dA_putDescriptor_25 fA_34 ((aw_up_n (aw_ne hA.1 hA.2.2.1 (fun h => by cases h))).trans hA.1) rfl ?_
    refine aw_iload_n dA_putDescriptor_28 rfl ?_
    refine ai_iconst dA_putDescriptor_29 ?_
    refine ai_iadd dA_putDescriptor_30 ?_
    refine aw_max dA_putDescriptor_31 wT_2_92 wT_2_93 wT_1_16 wT_2_94 (Nat.le_of_ble_eq_true rfl) ?_
    rw [iI_max (by omega) (by omega)]
    refine aw_put dA_putDescriptor_34 sA_34 ((aw_up_n (aw_ne hA.1 hA.2.2.1 (fun h => by cases h))).trans hA.1) rfl rfl (Nat.le_of_ble_eq_true rfl) ?_
    refine ai_iconst dA_putDescriptor_37 ?_
    refine aw_zret dA_putDescriptor_38 rfl (by decide +kernel) ?_
    exact hok k hk (by omega)
  · refine ai_iconst dA_putDescriptor_14 ?_
    refine aw_zret dA_putDescriptor_15 rfl (by decide +kernel) ?_
    exact hfull k hk (by omega)

theorem sp_Dinit {a : Nat} {n u : Int} (hJ : J a = some (.inr (2, [.int 0, .int 0]))) (hq : Q (.inl none) (aw_up J a (.inr (2, [.int (iI n), .int (iI u)])))) : aw_W G mD_init (d + 1) Q 0 [some (.ref a), some (.int (iI n)), some (.int (iI u))] [] J kc ks := by
  first | refine aw_aload_n dD_init_0 rfl ?_ | refine aw_aload_nQ dD_init_0 rfl ?_ | refine aw_aload_nN dD_init_0 rfl ?_
  refine aw_callI0 (mc' := 0) (ms' := 0) (kc' := kc) (ks' := ks) dD_init_1 cD_1 (Nat.le_of_ble_eq_true rfl) (Nat.le_of_ble_eq_true rfl) (by omega) (by omega) ?_
  refine sp_Rinit ?_
  first | refine aw_aload_n dD_init_4 rfl ?_ | refine aw_aload_nQ dD_init_4 rfl ?_ | refine aw_aload_nN dD_init_4 rfl ?_
  refine aw_iload_n dD_init_5 rfl ?_
  refine aw_putF dD_init_6 sD_7 rfl hJ rfl rfl (Nat.le_of_ble_eq_true rfl) ?_
  first | refine aw_aload_n dD_init_9 rfl ?_ | refine aw_aload_nQ dD_init_9 rfl ?_ | refine aw_aload_nN dD_init_9 rfl ?_
  refine aw_iload_n dD_init_10 rfl ?_
  refine aw_putF dD_init_11 sD_13 rfl aw_up_s rfl rfl (Nat.le_of_ble_eq_true rfl) ?_
  refine aw_vret dD_init_14 rfl ?_
  rw [aw_uu]
  exact hq

theorem sp_fileOf {a fa da : Nat} {cf cd : Nat → Option Nat} {n m x : Int} {F : Int → Int × Int × Int} (hA : st_A G J a fa da cf cd n m) (hF : st_CF J cf n F) (hx : iB x) (h1 : ∀ k c, 0 ≤ k → k < n → (F k).1 = x → (∀ j, 0 ≤ j → j < k → ¬ (F j).1 = x) → cf k.toNat = some c → J c = some (.inr (1, [.int (iI (F k).1), .int (iI (F k).2.1), .int (iI (F k).2.2)])) → Q (.inl (some (.ref c))) J) (h0 : (∀ j, 0 ≤ j → j < n → ¬ (F j).1 = x) → Q (.inl (some .null)) J) : aw_W G mA_fileOf (d + 1) Q 0 [some (.ref a), some (.int (iI x)), none] [] J kc ks := by
  first | refine aw_aload_n dA_fileOf_0 rfl ?_ | refine aw_aload_nQ dA_fileOf_0 rfl ?_ | refine aw_aload_nN dA_fileOf_0 rfl ?_
  refine aw_iload_n dA_fileOf_1 rfl ?_
  refine aw_callV1 (mc' := 0) (ms' := 0) (kc' := kc) (ks' := ks) dA_fileOf_2 cA_23 hA.1 (Nat.le_of_ble_eq_true rfl) (Nat.le_of_ble_eq_true rfl) (by omega) (by omega) rfl ?_
  refine sp_placeF hA hF hx (fun k hk => ?_)
  have hk1 := hk.1
  have hk2 := hk.2.1
  have hn8 := hA.2.2.2.1
  refine aw_istore_n dA_fileOf_5 (by decide) rfl ?_
  refine aw_iload_n dA_fileOf_6 rfl ?_
  first | refine aw_aload_n dA_fileOf_7 rfl ?_ | refine aw_aload_nQ dA_fileOf_7 rfl ?_ | refine aw_aload_nN dA_fileOf_7 rfl ?_
  refine aw_get dA_fileOf_8 fA_27 hA.1 rfl ?_
  refine ai_icmp_ge (tgt := 23) dA_fileOf_11 (by decide) (by omega) (by omega) (fun hb11 => ?_) (fun hb11 => ?_)
  · refine aw_null dA_fileOf_23 ?_
    refine aw_aret dA_fileOf_24 rfl (by first | exact Or.inr ⟨_, rfl⟩ | exact Or.inl rfl | exact aw_rf_or _) ?_
    first | exact h1 k c hk1 (by omega) (hk.2.2.2 (by omega)) hk.2.2.1 hc1 hc2 | exact h0 (fun j q1 q2 => hk.2.2.1 j q1 (by omega))
  · first | refine aw_aload_n dA_fileOf_14 rfl ?_ | refine aw_aload_nQ dA_fileOf_14 rfl ?_ | refine aw_aload_nN dA_fileOf_14 rfl ?_
    refine aw_get dA_fileOf_15 fA_11 hA.1 rfl ?_
    refine aw_iload_n dA_fileOf_18 rfl ?_
    refine aw_aald dA_fileOf_19 rfl hA.2.1 (iI_in (by omega) (by omega) (by omega)) ?_
    obtain ⟨hFb, c, hc1, hc2⟩ := hF k hk1 (by omega)
    rw [iI_cl (by omega), hc1]
    refine aw_goto (tgt := 24) dA_fileOf_20 (by decide) ?_
    refine aw_aret dA_fileOf_24 rfl (by first | exact Or.inr ⟨_, rfl⟩ | exact Or.inl rfl | exact aw_rf_or _) ?_
    first | exact h1 k c hk1 (by omega) (hk.2.2.2 (by omega)) hk.2.2.1 hc1 hc2 | exact h0 (fun j q1 q2 => hk.2.2.1 j q1 (by omega))

theorem sp_descOf {a fa da : Nat} {cf cd : Nat → Option Nat} {n m x : Int} {E : Int → Int × Int} (hA : st_A G J a fa da cf cd n m) (hE : st_DE J cd m E) (hx : iB x) (h1 : ∀ k c, 0 ≤ k → k < m → (E k).1 = x → (∀ j, 0 ≤ j → j < k → ¬ (E j).1 = x) → cd k.toNat = some c → J c = some (.inr (2, [.int (iI (E k).1), .int (iI (E k).2)])) → Q (.inl (some (.ref c))) J) (h0 : (∀ j, 0 ≤ j → j < m → ¬ (E j).1 = x) → Q (.inl (some .null)) J) : aw_W G mA_descriptorOf (d + 1) Q 0 [some (.ref a), some (.int (iI x)), none] [] J kc ks := by
  first | refine aw_aload_n dA_descriptorOf_0 rfl ?_ | refine aw_aload_nQ dA_descriptorOf_0 rfl ?_ | refine aw_aload_nN dA_descriptorOf_0 rfl ?_
  refine aw_iload_n dA_descriptorOf_1 rfl ?_
  refine aw_callV1 (mc' := 0) (ms' := 0) (kc' := kc) (ks' := ks) dA_descriptorOf_2 cA_31 hA.1 (Nat.le_of_ble_eq_true rfl) (Nat.le_of_ble_eq_true rfl) (by omega) (by omega) rfl ?_
  refine sp_placeD hA hE hx (fun k hk => ?_)
  have hk1 := hk.1
  have hk2 := hk.2.1
  have hn8 := hA.2.2.2.2
  refine aw_istore_n dA_descriptorOf_5 (by decide) rfl ?_
  refine aw_iload_n dA_descriptorOf_6 rfl ?_
  first | refine aw_aload_n dA_descriptorOf_7 rfl ?_ | refine aw_aload_nQ dA_descriptorOf_7 rfl ?_ | refine aw_aload_nN dA_descriptorOf_7 rfl ?_
  refine aw_get dA_descriptorOf_8 fA_34 hA.1 rfl ?_
  refine ai_icmp_ge (tgt := 23) dA_descriptorOf_11 (by decide) (by omega) (by omega) (fun hb11 => ?_) (fun hb11 => ?_)
  · refine aw_null dA_descriptorOf_23 ?_
    refine aw_aret dA_descriptorOf_24 rfl (by first | exact Or.inr ⟨_, rfl⟩ | exact Or.inl rfl | exact aw_rf_or _) ?_
    first | exact h1 k c hk1 (by omega) (hk.2.2.2 (by omega)) hk.2.2.1 hc1 hc2 | exact h0 (fun j q1 q2 => hk.2.2.1 j q1 (by omega))
  · first | refine aw_aload_n dA_descriptorOf_14 rfl ?_ | refine aw_aload_nQ dA_descriptorOf_14 rfl ?_ | refine aw_aload_nN dA_descriptorOf_14 rfl ?_
    refine aw_get dA_descriptorOf_15 fA_19 hA.1 rfl ?_
    refine aw_iload_n dA_descriptorOf_18 rfl ?_
    refine aw_aald dA_descriptorOf_19 rfl hA.2.2.1 (iI_in (by omega) (by omega) (by omega)) ?_
    obtain ⟨hFb, c, hc1, hc2⟩ := hE k hk1 (by omega)
    rw [iI_cl (by omega), hc1]
    refine aw_goto (tgt := 24) dA_descriptorOf_20 (by decide) ?_
    refine aw_aret dA_descriptorOf_24 rfl (by first | exact Or.inr ⟨_, rfl⟩ | exact Or.inl rfl | exact aw_rf_or _) ?_
    first | exact h1 k c hk1 (by omega) (hk.2.2.2 (by omega)) hk.2.2.1 hc1 hc2 | exact h0 (fun j q1 q2 => hk.2.2.1 j q1 (by omega))

theorem sp_Csame {a c : Nat} {u0 u1 u2 w0 w1 w2 : Int} (hu0 : iB u0) (hw0 : iB w0) (hu1 : iB u1) (hw1 : iB w1) (hu2 : iB u2) (hw2 : iB w2) (hA : J a = some (.inr (1, [.int (iI u0), .int (iI u1), .int (iI u2)]))) (hC : J c = some (.inr (1, [.int (iI w0), .int (iI w1), .int (iI w2)]))) (h1 : u0 = w0 ∧ u1 = w1 ∧ u2 = w2 → Q (.inl (some (.int (iI 1)))) J) (h0 : ¬ (u0 = w0 ∧ u1 = w1 ∧ u2 = w2) → Q (.inl (some (.int (iI 0)))) J) : aw_W G mC_isSame d Q 0 [some (.ref a), some (.ref c)] [] J kc ks := by
  first | refine aw_aload_n dC_isSame_0 rfl ?_ | refine aw_aload_nQ dC_isSame_0 rfl ?_ | refine aw_aload_nN dC_isSame_0 rfl ?_
  refine aw_ifnull (tgt := 41) (r := some c) dC_isSame_1 (by decide) (fun hb1 => absurd hb1 (by simp)) (fun _ => ?_)
  first | refine aw_aload_n dC_isSame_4 rfl ?_ | refine aw_aload_nQ dC_isSame_4 rfl ?_ | refine aw_aload_nN dC_isSame_4 rfl ?_
  refine aw_get dC_isSame_5 fC_7 hA rfl ?_
  first | refine aw_aload_n dC_isSame_8 rfl ?_ | refine aw_aload_nQ dC_isSame_8 rfl ?_ | refine aw_aload_nN dC_isSame_8 rfl ?_
  refine aw_get dC_isSame_9 fC_7 hC rfl ?_
  refine ai_icmp_ne (tgt := 41) dC_isSame_12 (by decide) (by omega) (by omega) (fun hb12 => ?_) (fun hb12 => ?_)
  · refine ai_iconst dC_isSame_41 ?_
    refine aw_zret dC_isSame_42 rfl (by decide +kernel) ?_
    first | exact h1 (by omega) | exact h0 (by omega)
  · first | refine aw_aload_n dC_isSame_15 rfl ?_ | refine aw_aload_nQ dC_isSame_15 rfl ?_ | refine aw_aload_nN dC_isSame_15 rfl ?_
    refine aw_get dC_isSame_16 fC_13 hA rfl ?_
    first | refine aw_aload_n dC_isSame_19 rfl ?_ | refine aw_aload_nQ dC_isSame_19 rfl ?_ | refine aw_aload_nN dC_isSame_19 rfl ?_
    refine aw_get dC_isSame_20 fC_13 hC rfl ?_
    refine ai_icmp_ne (tgt := 41) dC_isSame_23 (by decide) (by omega) (by omega) (fun hb23 => ?_) (fun hb23 => ?_)
    · refine ai_iconst dC_isSame_41 ?_
      refine aw_zret dC_isSame_42 rfl (by decide +kernel) ?_
      first | exact h1 (by omega) | exact h0 (by omega)
    · first | refine aw_aload_n dC_isSame_26 rfl ?_ | refine aw_aload_nQ dC_isSame_26 rfl ?_ | refine aw_aload_nN dC_isSame_26 rfl ?_
      refine aw_get dC_isSame_27 fC_16 hA rfl ?_
      first | refine aw_aload_n dC_isSame_30 rfl ?_ | refine aw_aload_nQ dC_isSame_30 rfl ?_ | refine aw_aload_nN dC_isSame_30 rfl ?_
      refine aw_get dC_isSame_31 fC_16 hC rfl ?_
      refine ai_icmp_ne (tgt := 41) dC_isSame_34 (by decide) (by omega) (by omega) (fun hb34 => ?_) (fun hb34 => ?_)
      · refine ai_iconst dC_isSame_41 ?_
        refine aw_zret dC_isSame_42 rfl (by decide +kernel) ?_
        first | exact h1 (by omega) | exact h0 (by omega)
      · refine ai_iconst dC_isSame_37 ?_
        refine aw_goto (tgt := 42) dC_isSame_38 (by decide) ?_
        refine aw_zret dC_isSame_42 rfl (by decide +kernel) ?_
        first | exact h1 (by omega) | exact h0 (by omega)

theorem sp_CsameN {a : Nat} (h0 : Q (.inl (some (.int (iI 0)))) J) : aw_W G mC_isSame d Q 0 [some (.ref a), some .null] [] J kc ks := by
  first | refine aw_aload_n dC_isSame_0 rfl ?_ | refine aw_aload_nQ dC_isSame_0 rfl ?_ | refine aw_aload_nN dC_isSame_0 rfl ?_
  refine aw_ifnull (tgt := 41) (r := none) dC_isSame_1 (by decide) (fun _ => ?_) (fun hb1 => absurd hb1 (by simp))
  refine ai_iconst dC_isSame_41 ?_
  refine aw_zret dC_isSame_42 rfl (by decide +kernel) ?_
  exact h0

theorem sp_Dsame {a c : Nat} {u0 u1 w0 w1 : Int} (hu0 : iB u0) (hw0 : iB w0) (hu1 : iB u1) (hw1 : iB w1) (hA : J a = some (.inr (2, [.int (iI u0), .int (iI u1)]))) (hC : J c = some (.inr (2, [.int (iI w0), .int (iI w1)]))) (h1 : u0 = w0 ∧ u1 = w1 → Q (.inl (some (.int (iI 1)))) J) (h0 : ¬ (u0 = w0 ∧ u1 = w1) → Q (.inl (some (.int (iI 0)))) J) : aw_W G mD_isSame d Q 0 [some (.ref a), some (.ref c)] [] J kc ks := by
  first | refine aw_aload_n dD_isSame_0 rfl ?_ | refine aw_aload_nQ dD_isSame_0 rfl ?_ | refine aw_aload_nN dD_isSame_0 rfl ?_
  refine aw_ifnull (tgt := 30) (r := some c) dD_isSame_1 (by decide) (fun hb1 => absurd hb1 (by simp)) (fun _ => ?_)
  first | refine aw_aload_n dD_isSame_4 rfl ?_ | refine aw_aload_nQ dD_isSame_4 rfl ?_ | refine aw_aload_nN dD_isSame_4 rfl ?_
  refine aw_get dD_isSame_5 fD_7 hA rfl ?_
  first | refine aw_aload_n dD_isSame_8 rfl ?_ | refine aw_aload_nQ dD_isSame_8 rfl ?_ | refine aw_aload_nN dD_isSame_8 rfl ?_
  refine aw_get dD_isSame_9 fD_7 hC rfl ?_
  refine ai_icmp_ne (tgt := 30) dD_isSame_12 (by decide) (by omega) (by omega) (fun hb12 => ?_) (fun hb12 => ?_)
  · refine ai_iconst dD_isSame_30 ?_
    refine aw_zret dD_isSame_31 rfl (by decide +kernel) ?_
    first | exact h1 (by omega) | exact h0 (by omega)
  · first | refine aw_aload_n dD_isSame_15 rfl ?_ | refine aw_aload_nQ dD_isSame_15 rfl ?_ | refine aw_aload_nN dD_isSame_15 rfl ?_
    refine aw_get dD_isSame_16 fD_13 hA rfl ?_
    first | refine aw_aload_n dD_isSame_19 rfl ?_ | refine aw_aload_nQ dD_isSame_19 rfl ?_ | refine aw_aload_nN dD_isSame_19 rfl ?_
    refine aw_get dD_isSame_20 fD_13 hC rfl ?_
    refine ai_icmp_ne (tgt := 30) dD_isSame_23 (by decide) (by omega) (by omega) (fun hb23 => ?_) (fun hb23 => ?_)
    · refine ai_iconst dD_isSame_30 ?_
      refine aw_zret dD_isSame_31 rfl (by decide +kernel) ?_
      first | exact h1 (by omega) | exact h0 (by omega)
    · refine ai_iconst dD_isSame_26 ?_
      refine aw_goto (tgt := 31) dD_isSame_27 (by decide) ?_
      refine aw_zret dD_isSame_31 rfl (by decide +kernel) ?_
      first | exact h1 (by omega) | exact h0 (by omega)

theorem sp_DsameN {a : Nat} (h0 : Q (.inl (some (.int (iI 0)))) J) : aw_W G mD_isSame d Q 0 [some (.ref a), some .null] [] J kc ks := by
  first | refine aw_aload_n dD_isSame_0 rfl ?_ | refine aw_aload_nQ dD_isSame_0 rfl ?_ | refine aw_aload_nN dD_isSame_0 rfl ?_
  refine aw_ifnull (tgt := 30) (r := none) dD_isSame_1 (by decide) (fun _ => ?_) (fun hb1 => absurd hb1 (by simp))
  refine ai_iconst dD_isSame_30 ?_
  refine aw_zret dD_isSame_31 rfl (by decide +kernel) ?_
  exact h0

theorem sp_Fsame {a c : Nat} {u0 w0 : Int} {u1 u2 w1 w2 : Int64} (hu0 : iB u0) (hw0 : iB w0) (hA : J a = some (.inr (3, [.int (iI u0), .long u1, .long u2]))) (hC : J c = some (.inr (3, [.int (iI w0), .long w1, .long w2]))) (h1 : u0 = w0 ∧ u1 = w1 ∧ u2 = w2 → Q (.inl (some (.int (iI 1)))) J) (h0 : ¬ (u0 = w0 ∧ u1 = w1 ∧ u2 = w2) → Q (.inl (some (.int (iI 0)))) J) : aw_W G mF_isSame d Q 0 [some (.ref a), some (.ref c)] [] J kc ks := by
  first | refine aw_aload_n dF_isSame_0 rfl ?_ | refine aw_aload_nQ dF_isSame_0 rfl ?_ | refine aw_aload_nN dF_isSame_0 rfl ?_
  refine aw_ifnull (tgt := 43) (r := some c) dF_isSame_1 (by decide) (fun hb1 => absurd hb1 (by simp)) (fun _ => ?_)
  first | refine aw_aload_n dF_isSame_4 rfl ?_ | refine aw_aload_nQ dF_isSame_4 rfl ?_ | refine aw_aload_nN dF_isSame_4 rfl ?_
  refine aw_get dF_isSame_5 fF_7 hA rfl ?_
  first | refine aw_aload_n dF_isSame_8 rfl ?_ | refine aw_aload_nQ dF_isSame_8 rfl ?_ | refine aw_aload_nN dF_isSame_8 rfl ?_
  refine aw_get dF_isSame_9 fF_7 hC rfl ?_
  refine ai_icmp_ne (tgt := 43) dF_isSame_12 (by decide) (by omega) (by omega) (fun hb12 => ?_) (fun hb12 => ?_)
  · refine ai_iconst dF_isSame_43 ?_
    refine aw_zret dF_isSame_44 rfl (by decide +kernel) ?_
    first
      | exact h1 ⟨by omega, (mo_lcmp _ _).mp hb24, (mo_lcmp _ _).mp hb36⟩
      | exact h0 (fun z => absurd z.1 (by omega))
      | exact h0 (fun z => hb24 ((mo_lcmp _ _).mpr z.2.1))
      | exact h0 (fun z => hb36 ((mo_lcmp _ _).mpr z.2.2))
  · first | refine aw_aload_n dF_isSame_15 rfl ?_ | refine aw_aload_nQ dF_isSame_15 rfl ?_ | refine aw_aload_nN dF_isSame_15 rfl ?_
    refine aw_get dF_isSame_16 fF_13 hA rfl ?_
    first | refine aw_aload_n dF_isSame_19 rfl ?_ | refine aw_aload_nQ dF_isSame_19 rfl ?_ | refine aw_aload_nN dF_isSame_19 rfl ?_
    refine aw_get dF_isSame_20 fF_13 hC rfl ?_
    refine aw_lcmp dF_isSame_23 ?_
    refine aw_if_ne (tgt := 43) dF_isSame_24 (by decide) (fun hb24 => ?_) (fun hb24 => ?_)
    · refine ai_iconst dF_isSame_43 ?_
      refine aw_zret dF_isSame_44 rfl (by decide +kernel) ?_
      first
        | exact h1 ⟨by omega, (mo_lcmp _ _).mp hb24, (mo_lcmp _ _).mp hb36⟩
        | exact h0 (fun z => absurd z.1 (by omega))
        | exact h0 (fun z => hb24 ((mo_lcmp _ _).mpr z.2.1))
        | exact h0 (fun z => hb36 ((mo_lcmp _ _).mpr z.2.2))
    · first | refine aw_aload_n dF_isSame_27 rfl ?_ | refine aw_aload_nQ dF_isSame_27 rfl ?_ | refine aw_aload_nN dF_isSame_27 rfl ?_
      refine aw_get dF_isSame_28 fF_17 hA rfl ?_
      first | refine aw_aload_n dF_isSame_31 rfl ?_ | refine aw_aload_nQ dF_isSame_31 rfl ?_ | refine aw_aload_nN dF_isSame_31 rfl ?_
      refine aw_get dF_isSame_32 fF_17 hC rfl ?_
      refine aw_lcmp dF_isSame_35 ?_
      refine aw_if_ne (tgt := 43) dF_isSame_36 (by decide) (fun hb36 => ?_) (fun hb36 => ?_)
      · refine ai_iconst dF_isSame_43 ?_
        refine aw_zret dF_isSame_44 rfl (by decide +kernel) ?_
        first
          | exact h1 ⟨by omega, (mo_lcmp _ _).mp hb24, (mo_lcmp _ _).mp hb36⟩
          | exact h0 (fun z => absurd z.1 (by omega))
          | exact h0 (fun z => hb24 ((mo_lcmp _ _).mpr z.2.1))
          | exact h0 (fun z => hb36 ((mo_lcmp _ _).mpr z.2.2))
      · refine ai_iconst dF_isSame_39 ?_
        refine aw_goto (tgt := 44) dF_isSame_40 (by decide) ?_
        refine aw_zret dF_isSame_44 rfl (by decide +kernel) ?_
        first
          | exact h1 ⟨by omega, (mo_lcmp _ _).mp hb24, (mo_lcmp _ _).mp hb36⟩
          | exact h0 (fun z => absurd z.1 (by omega))
          | exact h0 (fun z => hb24 ((mo_lcmp _ _).mpr z.2.1))
          | exact h0 (fun z => hb36 ((mo_lcmp _ _).mpr z.2.2))

theorem sp_FsameN {a : Nat} (h0 : Q (.inl (some (.int (iI 0)))) J) : aw_W G mF_isSame d Q 0 [some (.ref a), some .null] [] J kc ks := by
  first | refine aw_aload_n dF_isSame_0 rfl ?_ | refine aw_aload_nQ dF_isSame_0 rfl ?_ | refine aw_aload_nN dF_isSame_0 rfl ?_
  refine aw_ifnull (tgt := 43) (r := none) dF_isSame_1 (by decide) (fun _ => ?_) (fun hb1 => absurd hb1 (by simp))
  refine ai_iconst dF_isSame_43 ?_
  refine aw_zret dF_isSame_44 rfl (by decide +kernel) ?_
  exact h0

end ST3
