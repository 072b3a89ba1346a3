/-! the class: archives and class files -/
section ST1
variable {G : aw_G} {d : Nat} {Q : aw_O → aw_J → Prop} {J : aw_J} {kc ks : Nat}
theorem dR_init_0 : decode prog_18_method_1_code 0 = .ok (.aload_n 0, 1) := by decide +kernel
theorem dR_init_1 : decode prog_18_method_1_code 1 = .ok (.invokespecial 1, 3) := by decide +kernel
theorem dR_init_4 : decode prog_18_method_1_code 4 = .ok (.return_, 1) := by decide +kernel
theorem aw_uu (J : aw_J) (a : Nat) (e f : va_E) : aw_up (aw_up J a e) a f = aw_up J a f := by
  funext c
  by_cases h : c = a
  · rw [h, aw_up_s, aw_up_s]
  · rw [aw_up_n h, aw_up_n h, aw_up_n h]
theorem aw_ne {J : aw_J} {a c : Nat} {x y : va_E} (h1 : J a = some x) (h2 : J c = some y) (h : x ≠ y) : a ≠ c := fun e => h (Option.some.inj (h1.symm.trans (e ▸ h2)))
theorem aw_nf {J : aw_J} {a c : Nat} {x : va_E} (h1 : J a = some x) (h2 : J c = none) : a ≠ c := fun e => by rw [e, h2] at h1; cases h1
theorem aw_uc {J : aw_J} {a c : Nat} {e f : va_E} (h : a ≠ c) : aw_up (aw_up J a e) c f = aw_up (aw_up J c f) a e := by
  funext k
  by_cases h1 : k = a
  · rw [h1, aw_up_n h, aw_up_s, aw_up_s]
  · by_cases h2 : k = c
    · rw [h2, aw_up_s, aw_up_n (Ne.symm h), aw_up_s]
    · rw [aw_up_n h2, aw_up_n h1, aw_up_n h1, aw_up_n h2]
theorem iI_max {x y : Int} (hx : iB x) (hy : iB y) : (if iI x < iI y then iI y else iI x) = iI (if x < y then y else x) := by
  by_cases h : x < y
  · rw [if_pos h, if_pos ((iI_lt hx hy).mpr h)]
  · rw [if_neg h, if_neg (fun z => h ((iI_lt hx hy).mp z))]
theorem sp_below {x y : Int} (hx : iB x) (hy : iB y) (h1 : 0 ≤ x ∧ x < y → Q (.inl (some (.int (iI 1)))) J) (h0 : ¬ (0 ≤ x ∧ x < y) → Q (.inl (some (.int (iI 0)))) J) : aw_W G mT_isBelow d Q 0 [some (.int (iI x)), some (.int (iI y))] [] J kc ks := by
  refine aw_iload_n dT_isBelow_0 rfl ?_
  refine ai_if_lt (tgt := 13) dT_isBelow_1 (by decide) (by omega) (fun hb1 => ?_) (fun hb1 => ?_)
  · refine ai_iconst dT_isBelow_13 ?_
    refine aw_zret dT_isBelow_14 rfl (by decide +kernel) ?_
    first | exact h1 (by omega) | exact h0 (by omega)
  · refine aw_iload_n dT_isBelow_4 rfl ?_
    refine aw_iload_n dT_isBelow_5 rfl ?_
    refine ai_icmp_ge (tgt := 13) dT_isBelow_6 (by decide) (by omega) (by omega) (fun hb6 => ?_) (fun hb6 => ?_)
    · refine ai_iconst dT_isBelow_13 ?_
      refine aw_zret dT_isBelow_14 rfl (by decide +kernel) ?_
      first | exact h1 (by omega) | exact h0 (by omega)
    · refine ai_iconst dT_isBelow_9 ?_
      refine aw_goto (tgt := 14) dT_isBelow_10 (by decide) ?_
      refine aw_zret dT_isBelow_14 rfl (by decide +kernel) ?_
      first | exact h1 (by omega) | exact h0 (by omega)
theorem sp_Rinit {a : Nat} (hq : Q (.inl none) J) : aw_W G mR_init d Q 0 [some (.ref a)] [] J kc ks := by
  refine aw_aload_n dR_init_0 rfl ?_
  refine aw_oinit dR_init_1 wT_2_69 wOI wOC (Nat.le_of_ble_eq_true rfl) ?_
  refine aw_vret dR_init_4 rfl ?_
  exact hq
theorem sp_Cinit {a : Nat} {n u v : Int} {fs : List Value} (hJ : J a = some (.inr (1, [.int 0, .int 0, .int 0]))) (hq : Q (.inl none) (aw_up J a (.inr (1, [.int (iI n), .int (iI u), .int (iI v)])))) : aw_W G mC_init (d + 1) Q 0 [some (.ref a), some (.int (iI n)), some (.int (iI u)), some (.int (iI v))] [] J kc ks := by
  first | refine aw_aload_n dC_init_0 rfl ?_ | refine aw_aload_nQ dC_init_0 rfl ?_ | refine aw_aload_nN dC_init_0 rfl ?_
  refine aw_callI0 (mc' := 0) (ms' := 0) (kc' := kc) (ks' := ks) dC_init_1 cC_1 (Nat.le_of_ble_eq_true rfl) (Nat.le_of_ble_eq_true rfl) (by omega) (by omega) ?_
  refine sp_Rinit ?_
  first | refine aw_aload_n dC_init_4 rfl ?_ | refine aw_aload_nQ dC_init_4 rfl ?_ | refine aw_aload_nN dC_init_4 rfl ?_
  refine aw_iload_n dC_init_5 rfl ?_
  refine aw_putF dC_init_6 sC_7 rfl hJ rfl rfl (Nat.le_of_ble_eq_true rfl) ?_
  first | refine aw_aload_n dC_init_9 rfl ?_ | refine aw_aload_nQ dC_init_9 rfl ?_ | refine aw_aload_nN dC_init_9 rfl ?_
  refine aw_iload_n dC_init_10 rfl ?_
  refine aw_putF dC_init_11 sC_13 rfl aw_up_s rfl rfl (Nat.le_of_ble_eq_true rfl) ?_
  first | refine aw_aload_n dC_init_14 rfl ?_ | refine aw_aload_nQ dC_init_14 rfl ?_ | refine aw_aload_nN dC_init_14 rfl ?_
  refine aw_iload_n dC_init_15 rfl ?_
  refine aw_putF dC_init_16 sC_16 rfl aw_up_s rfl rfl (Nat.le_of_ble_eq_true rfl) ?_
  refine aw_vret dC_init_19 rfl ?_
  rw [aw_uu, aw_uu]
  exact hq

/-- an archive at a: its arrays fa, da, their objects cf, cd, its counts n, m -/
def st_A (G : aw_G) (J : aw_J) (a fa da : Nat) (cf cd : Nat → Option Nat) (n m : Int) : Prop := J a = some (.inr (0, [.ref fa, .int (iI n), .ref da, .int (iI m)])) ∧ J fa = some (.inl (G.2.2.1 7, 8, .inr (.inr (.inr (.inr cf))))) ∧ J da = some (.inl (G.2.2.1 8, 4, .inr (.inr (.inr (.inr cd))))) ∧ (0 ≤ n ∧ n ≤ 8) ∧ (0 ≤ m ∧ m ≤ 4)
/-- class files: the places below n of cf hold the rows F -/
def st_CF (J : aw_J) (cf : Nat → Option Nat) (n : Int) (F : Int → Int × Int × Int) : Prop := ∀ i, 0 ≤ i → i < n → iB (F i).1 ∧ ∃ c : Nat, cf i.toNat = some c ∧ J c = some (.inr (1, [.int (iI (F i).1), .int (iI (F i).2.1), .int (iI (F i).2.2)]))
def st_DE (J : aw_J) (cd : Nat → Option Nat) (n : Int) (E : Int → Int × Int) : Prop := ∀ i, 0 ≤ i → i < n → iB (E i).1 ∧ ∃ c : Nat, cd i.toNat = some c ∧ J c = some (.inr (2, [.int (iI (E i).1), .int (iI (E i).2)]))
theorem sp_placeF_l {a fa da : Nat} {cf cd : Nat → Option Nat} {n m x : Int} {F : Int → Int × Int × Int} (hA : st_A G J a fa da cf cd n m) (hF : st_CF J cf n F) (hx : iB x) (hk : ∀ k, mo_lst (fun j => (F j).1 = x) n k → Q (.inl (some (.int (iI k)))) J) : ∀ i : Int, i ≤ n → 0 ≤ i → (∀ j, 0 ≤ j → j < i → ¬ (F j).1 = x) → aw_W G mA_placeOfFile d Q 2 [some (.ref a), some (.int (iI x)), some (.int (iI i))] [] J kc ks := by
  have hn8 := hA.2.2.2.1
  refine il_up n (fun i hi ih h0 hj => ?_)
  refine aw_iload_n dA_placeOfFile_2 rfl ?_
  first | refine aw_aload_n dA_placeOfFile_3 rfl ?_ | refine aw_aload_nQ dA_placeOfFile_3 rfl ?_ | refine aw_aload_nN dA_placeOfFile_3 rfl ?_
  refine aw_get dA_placeOfFile_4 fA_27 hA.1 rfl ?_
  refine ai_icmp_ge (tgt := 29) dA_placeOfFile_7 (by decide) (by omega) (by omega) (fun hb7 => ?_) (fun hb7 => ?_)
  · refine aw_iload_n dA_placeOfFile_29 rfl ?_
    refine aw_iret dA_placeOfFile_30 rfl ?_
    exact hk i (by first | exact ⟨by omega, by omega, hj, fun _ => by omega⟩ | exact ⟨by omega, by omega, hj, fun h => absurd h (by omega)⟩)
  · first | refine aw_aload_n dA_placeOfFile_10 rfl ?_ | refine aw_aload_nQ dA_placeOfFile_10 rfl ?_ | refine aw_aload_nN dA_placeOfFile_10 rfl ?_
    refine aw_get dA_placeOfFile_11 fA_11 hA.1 rfl ?_
    refine aw_iload_n dA_placeOfFile_14 rfl ?_
    obtain ⟨hFb, c, hc1, hc2⟩ := hF i h0 (by omega)
    refine aw_aald dA_placeOfFile_15 rfl hA.2.1 (iI_in (by omega) (by omega) (by omega)) ?_
    rw [iI_cl (by omega), hc1]
    refine aw_get dA_placeOfFile_16 fA_37 hc2 rfl ?_
    refine aw_iload_n dA_placeOfFile_19 rfl ?_
    refine ai_icmp_eq (tgt := 29) dA_placeOfFile_20 (by decide) (by omega) (by omega) (fun hb20 => ?_) (fun hb20 => ?_)
    · refine aw_iload_n dA_placeOfFile_29 rfl ?_
      refine aw_iret dA_placeOfFile_30 rfl ?_
      exact hk i (by first | exact ⟨by omega, by omega, hj, fun _ => by omega⟩ | exact ⟨by omega, by omega, hj, fun h => absurd h (by omega)⟩)
    · refine ai_iinc dA_placeOfFile_23 rfl (by decide) rfl ?_
      refine aw_goto (tgt := 2) dA_placeOfFile_26 (by decide) ?_
      exact ih (by omega) (by omega) (fun j h1 h2 => by
        by_cases e : j = i
        · rw [e]; omega
        · exact hj j h1 (by omega))
theorem sp_placeF {a fa da : Nat} {cf cd : Nat → Option Nat} {n m x : Int} {F : Int → Int × Int × Int} (hA : st_A G J a fa da cf cd n m) (hF : st_CF J cf n F) (hx : iB x) (hk : ∀ k, mo_lst (fun j => (F j).1 = x) n k → Q (.inl (some (.int (iI k)))) J) : aw_W G mA_placeOfFile d Q 0 [some (.ref a), some (.int (iI x)), none] [] J kc ks := by
  refine ai_iconst dA_placeOfFile_0 ?_
  refine aw_istore_n dA_placeOfFile_1 (by decide) rfl ?_
  exact sp_placeF_l hA hF hx hk 0 hA.2.2.2.1.1 (by decide) (fun j h1 h2 => absurd h2 (by omega))
theorem sp_putF {a fa da : Nat} {cf cd : Nat → Option Nat} {n m x : Int} {F : Int → Int × Int × Int} {q : Nat} {y z : Value} (hA : st_A G J a fa da cf cd n m) (hF : st_CF J cf n F) (hx : iB x) (hq1 : J q = some (.inr (1, [.int (iI x), y, z]))) (hfull : ∀ k, mo_lst (fun j => (F j).1 = x) n k → k = 8 → Q (.inl (some (.int (iI 0)))) J) (hok : ∀ k, mo_lst (fun j => (F j).1 = x) n k → k < 8 → Q (.inl (some (.int (iI 1)))) (aw_up (aw_up J fa (.inl (G.2.2.1 7, 8, .inr (.inr (.inr (.inr (va_up cf k.toNat (some q)))))))) a (.inr (0, [.ref fa, .int (iI (if n < k + 1 then k + 1 else n)), .ref da, .int (iI m)])))) : aw_W G mA_putFile (d + 1) Q 0 [some (.ref a), some (.ref q), none] [] J kc ks := by
  first | refine aw_aload_n dA_putFile_0 rfl ?_ | refine aw_aload_nQ dA_putFile_0 rfl ?_ | refine aw_aload_nN dA_putFile_0 rfl ?_
  first | refine aw_aload_n dA_putFile_1 rfl ?_ | refine aw_aload_nQ dA_putFile_1 rfl ?_ | refine aw_aload_nN dA_putFile_1 rfl ?_
  refine aw_get dA_putFile_2 fA_37 hq1 rfl ?_
  refine aw_callV1 (mc' := 0) (ms' := 0) (kc' := kc) (ks' := ks) dA_putFile_5 cA_23 hA.1 (Nat.le_of_ble_eq_true rfl) (Nat.le_of_ble_eq_true rfl) (by omega) (by omega) rfl ?_
  refine sp_placeF hA hF hx (fun k hk => ?_)
  have hk1 := hk.1
  have hk2 := hk.2.1
  have hn8 := hA.2.2.2.1
  refine aw_istore_n dA_putFile_8 (by decide) rfl ?_
  refine aw_iload_n dA_putFile_9 rfl ?_
  refine ai_bipush dA_putFile_10 (by decide +kernel) ?_
  refine ai_icmp_lt (tgt := 17) dA_putFile_12 (by decide) (by omega) (by omega) (fun hb12 => ?_) (fun hb12 => ?_)
  · first | refine aw_aload_n dA_putFile_17 rfl ?_ | refine aw_aload_nQ dA_putFile_17 rfl ?_ | refine aw_aload_nN dA_putFile_17 rfl ?_
    refine aw_get dA_putFile_18 fA_11 hA.1 rfl ?_
    refine aw_iload_n dA_putFile_21 rfl ?_
    first | refine aw_aload_n dA_putFile_22 rfl ?_ | refine aw_aload_nQ dA_putFile_22 rfl ?_ | refine aw_aload_nN dA_putFile_22 rfl ?_
    refine aw_aast dA_putFile_23 rfl rfl hA.2.1 hq1 (iI_in (by omega) (by omega) (by omega)) ?_
    first | refine aw_aload_n dA_putFile_24 rfl ?_ | refine aw_aload_nQ dA_putFile_24 rfl ?_ | refine aw_aload_nN dA_putFile_24 rfl ?_
    first | refine aw_aload_n dA_putFile_25 rfl ?_ | refine aw_aload_nQ dA_putFile_25 rfl ?_ | refine aw_aload_nN dA_putFile_25 rfl ?_
    rw [iI_cl (by omega)]
    refine aw_get dA_putFile_26 fA_27 ((aw_up_n (aw_ne hA.1 hA.2.1 (fun h => by cases h))).trans hA.1) rfl ?_
    refine aw_iload_n dA_putFile_29 rfl ?_
    refine ai_iconst dA_putFile_30 ?_
    refine ai_iadd dA_putFile_31 ?_
    refine aw_max dA_putFile_32 wT_2_92 wT_2_93 wT_1_16 wT_2_94 (Nat.le_of_ble_eq_true rfl) ?_
    rw [iI_max (by omega) (by omega)]
    refine aw_put dA_putFile_35 sA_27 ((aw_up_n (aw_ne hA.1 hA.2.1 (fun h => by cases h))).trans hA.1) rfl rfl (Nat.le_of_ble_eq_true rfl) ?_
    refine ai_iconst dA_putFile_38 ?_
    refine aw_zret dA_putFile_39 rfl (by decide +kernel) ?_
    exact hok k hk (by omega)
  · refine ai_iconst dA_putFile_15 ?_
    refine aw_zret dA_putFile_16 rfl (by decide +kernel) ?_
    exact hfull k hk (by omega)

end ST1
