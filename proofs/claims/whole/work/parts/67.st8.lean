/-! the class: loaders, types, scopes -/
section ST8
variable {G : aw_G} {d : Nat} {Q : aw_O → aw_J → Prop} {J : aw_J} {kc ks : Nat}
/-- a loader at a: number, kind, parent, contents, filter, holders, count of its classes, gone or not -/
def st_L (J : aw_J) (a : Nat) (l k : Int) (rp : Option Nat) (ca : Nat) (rf : Option Nat) (h dc g : Int) : Prop := J a = some (.inr (4, [.int (iI l), .int (iI k), va_rf rp, .ref ca, va_rf rf, .int (iI h), .int (iI dc), .int (iI g)]))
theorem sp_Linit {a ca : Nat} {l k : Int} {rp rf : Option Nat} (hJ : J a = some (.inr (4, [.int 0, .int 0, .null, .null, .null, .int 0, .int 0, .int 0]))) (hq : Q (.inl none) (aw_up J a (.inr (4, [.int (iI l), .int (iI k), va_rf rp, .ref ca, va_rf rf, .int (iI 0), .int (iI 0), .int (iI 0)])))) : aw_W G mL_init d Q 0 [some (.ref a), some (.int (iI l)), some (.int (iI k)), some (va_rf rp), some (.ref ca), some (va_rf rf)] [] J kc ks := by
  first | refine aw_aload_n dL_init_0 rfl ?_ | refine aw_aload_nQ dL_init_0 rfl ?_ | refine aw_aload_nN dL_init_0 rfl ?_
  refine aw_oinit dL_init_1 wT_1_67 wOI wOC (Nat.le_of_ble_eq_true rfl) ?_
  first | refine aw_aload_n dL_init_4 rfl ?_ | refine aw_aload_nQ dL_init_4 rfl ?_ | refine aw_aload_nN dL_init_4 rfl ?_
  refine aw_iload_n dL_init_5 rfl ?_
  refine aw_putF dL_init_6 sL_7 rfl hJ rfl rfl (Nat.le_of_ble_eq_true rfl) ?_
  first | refine aw_aload_n dL_init_9 rfl ?_ | refine aw_aload_nQ dL_init_9 rfl ?_ | refine aw_aload_nN dL_init_9 rfl ?_
  refine aw_iload_n dL_init_10 rfl ?_
  refine aw_putF dL_init_11 sL_13 rfl aw_up_s rfl rfl (Nat.le_of_ble_eq_true rfl) ?_
  first | refine aw_aload_n dL_init_14 rfl ?_ | refine aw_aload_nQ dL_init_14 rfl ?_ | refine aw_aload_nN dL_init_14 rfl ?_
  refine aw_aload_nQ dL_init_15 rfl ?_
  refine aw_putF dL_init_16 sL_16 rfl aw_up_s (by cases rp <;> rfl) (by cases rp <;> rfl) (Nat.le_of_ble_eq_true rfl) ?_
  first | refine aw_aload_n dL_init_19 rfl ?_ | refine aw_aload_nQ dL_init_19 rfl ?_ | refine aw_aload_nN dL_init_19 rfl ?_
  refine aw_aload dL_init_20 rfl ?_
  refine aw_putF dL_init_22 sL_20 rfl aw_up_s rfl rfl (Nat.le_of_ble_eq_true rfl) ?_
  first | refine aw_aload_n dL_init_25 rfl ?_ | refine aw_aload_nQ dL_init_25 rfl ?_ | refine aw_aload_nN dL_init_25 rfl ?_
  refine aw_aloadQ dL_init_26 rfl ?_
  refine aw_putF dL_init_28 sL_24 rfl aw_up_s (by cases rf <;> rfl) (by cases rf <;> rfl) (Nat.le_of_ble_eq_true rfl) ?_
  refine aw_vret dL_init_31 rfl ?_
  rw [aw_uu, aw_uu, aw_uu, aw_uu, iI_z0]
  exact hq

theorem sp_Yinit {a : Nat} {l k v : Int} {rd rs : Option Nat} (hJ : J a = some (.inr (7, [.int 0, .int 0, .int 0, .null, .null]))) (hq : Q (.inl none) (aw_up J a (.inr (7, [.int (iI l), .int (iI k), .int (iI v), va_rf rd, va_rf rs])))) : aw_W G mY_init d Q 0 [some (.ref a), some (.int (iI l)), some (.int (iI k)), some (.int (iI v)), some (va_rf rd), some (va_rf rs)] [] J kc ks := by
  first | refine aw_aload_n dY_init_0 rfl ?_ | refine aw_aload_nQ dY_init_0 rfl ?_ | refine aw_aload_nN dY_init_0 rfl ?_
  refine aw_oinit dY_init_1 wT_1_101 wOI wOC (Nat.le_of_ble_eq_true rfl) ?_
  first | refine aw_aload_n dY_init_4 rfl ?_ | refine aw_aload_nQ dY_init_4 rfl ?_ | refine aw_aload_nN dY_init_4 rfl ?_
  refine aw_iload_n dY_init_5 rfl ?_
  refine aw_putF dY_init_6 sY_7 rfl hJ rfl rfl (Nat.le_of_ble_eq_true rfl) ?_
  first | refine aw_aload_n dY_init_9 rfl ?_ | refine aw_aload_nQ dY_init_9 rfl ?_ | refine aw_aload_nN dY_init_9 rfl ?_
  refine aw_iload_n dY_init_10 rfl ?_
  refine aw_putF dY_init_11 sY_13 rfl aw_up_s rfl rfl (Nat.le_of_ble_eq_true rfl) ?_
  first | refine aw_aload_n dY_init_14 rfl ?_ | refine aw_aload_nQ dY_init_14 rfl ?_ | refine aw_aload_nN dY_init_14 rfl ?_
  refine aw_iload_n dY_init_15 rfl ?_
  refine aw_putF dY_init_16 sY_16 rfl aw_up_s rfl rfl (Nat.le_of_ble_eq_true rfl) ?_
  first | refine aw_aload_n dY_init_19 rfl ?_ | refine aw_aload_nQ dY_init_19 rfl ?_ | refine aw_aload_nN dY_init_19 rfl ?_
  refine aw_aloadQ dY_init_20 rfl ?_
  refine aw_putF dY_init_22 sY_19 rfl aw_up_s (by cases rd <;> rfl) (by cases rd <;> rfl) (Nat.le_of_ble_eq_true rfl) ?_
  first | refine aw_aload_n dY_init_25 rfl ?_ | refine aw_aload_nQ dY_init_25 rfl ?_ | refine aw_aload_nN dY_init_25 rfl ?_
  refine aw_aloadQ dY_init_26 rfl ?_
  refine aw_putF dY_init_28 sY_23 rfl aw_up_s (by cases rs <;> rfl) (by cases rs <;> rfl) (Nat.le_of_ble_eq_true rfl) ?_
  refine aw_vret dY_init_31 rfl ?_
  rw [aw_uu, aw_uu, aw_uu, aw_uu]
  exact hq

/-- the row ca of archives: N of them, at A i, with their files F i and descriptors E i -/
def st_CO (G : aw_G) (J : aw_J) (ca N : Nat) (A fA dA : Int → Nat) (cF cD : Int → Nat → Option Nat) (nF nD : Int → Int) (F : Int → Int → Int × Int × Int) (E : Int → Int → Int × Int) : Prop := (∃ co : Nat → Option Nat, J ca = some (.inl (G.2.2.1 3, N, .inr (.inr (.inr (.inr co))))) ∧ ∀ i, 0 ≤ i → i < (N : Int) → co i.toNat = some (A i)) ∧ ∀ i, 0 ≤ i → i < (N : Int) → st_A G J (A i) (fA i) (dA i) (cF i) (cD i) (nF i) (nD i) ∧ st_CF J (cF i) (nF i) (F i) ∧ st_DE J (cD i) (nD i) (E i)
theorem sp_LfileOf_l {ca N : Nat} {A fA dA : Int → Nat} {cF cD : Int → Nat → Option Nat} {nF nD : Int → Int} {F : Int → Int → Int × Int × Int} {E : Int → Int → Int × Int} {a : Nat} {l k h dc g x : Int} {rp rf : Option Nat} (hO : st_CO G J ca N A fA dA cF cD nF nD F E) (hN : N ≤ 4) (hL : st_L J a l k rp ca rf h dc g) (hx : iB x) (h1 : ∀ i k c, 0 ≤ i → i < (N : Int) → (∀ j, 0 ≤ j → j < i → ∀ k, 0 ≤ k → k < nF j → ¬ (F j k).1 = x) → 0 ≤ k → k < nF i → (F i k).1 = x → J c = some (.inr (1, [.int (iI (F i k).1), .int (iI (F i k).2.1), .int (iI (F i k).2.2)])) → Q (.inl (some (.ref c))) J) (h0 : (∀ j, 0 ≤ j → j < (N : Int) → ∀ k, 0 ≤ k → k < nF j → ¬ (F j k).1 = x) → Q (.inl (some .null)) J) : ∀ i : Int, i ≤ (N : Int) → 0 ≤ i → ∀ x3, (∀ j, 0 ≤ j → j < i → ∀ k, 0 ≤ k → k < nF j → ¬ (F j k).1 = x) → aw_W G mL_fileOf (d + 1 + 1) Q 2 [some (.ref a), some (.int (iI x)), some (.int (iI i)), x3] [] J kc ks := by
  obtain ⟨co, hco, hcA⟩ := hO.1
  refine il_up (N : Int) (fun i hi ih hi0 x3 hj => ?_)
  refine aw_iload_n dL_fileOf_2 rfl ?_
  first | refine aw_aload_n dL_fileOf_3 rfl ?_ | refine aw_aload_nQ dL_fileOf_3 rfl ?_ | refine aw_aload_nN dL_fileOf_3 rfl ?_
  refine aw_get dL_fileOf_4 fL_20 hL rfl ?_
  refine aw_alen dL_fileOf_7 rfl hco ?_
  rw [show Int32.ofNat N = iI (N : Int) from iI_ofNat N]
  refine ai_icmp_ge (tgt := 34) dL_fileOf_8 (by decide) (by omega) (by omega) (fun hb8 => ?_) (fun hb8 => ?_)
  · refine aw_null dL_fileOf_34 ?_
    refine aw_aret dL_fileOf_35 rfl (by first | exact Or.inr ⟨_, rfl⟩ | exact Or.inl rfl | exact aw_rf_or _) ?_
    exact h0 (fun j q1 q2 => hj j q1 (by omega))
  · first | refine aw_aload_n dL_fileOf_11 rfl ?_ | refine aw_aload_nQ dL_fileOf_11 rfl ?_ | refine aw_aload_nN dL_fileOf_11 rfl ?_
    refine aw_get dL_fileOf_12 fL_20 hL rfl ?_
    refine aw_iload_n dL_fileOf_15 rfl ?_
    have hr := hO.2 i hi0 (by omega)
    refine aw_aald dL_fileOf_16 rfl hco (iI_in (by omega) (by omega) (by omega)) ?_
    rw [iI_cl (by omega), hcA i hi0 (by omega)]
    refine aw_iload_n dL_fileOf_17 rfl ?_
    refine aw_callVN1 (mc' := 0) (ms' := 0) (kc' := kc) (ks' := ks) dL_fileOf_18 cL_28 hr.1.1 (Nat.le_of_ble_eq_true rfl) (Nat.le_of_ble_eq_true rfl) (by omega) (by omega) ?_
    refine sp_fileOf hr.1 hr.2.1 hx (fun k c hk1 hk2 hk3 hk4 hk5 hk6 => ?_) (fun hno => ?_)
    · refine aw_astore_n dL_fileOf_21 (by decide) rfl ?_
      refine aw_aload_n dL_fileOf_22 rfl ?_
      refine aw_ifnull (tgt := 28) (r := some c) dL_fileOf_23 (by decide) (fun z => absurd z (by simp)) (fun _ => ?_)
      refine aw_aload_n dL_fileOf_26 rfl ?_
      refine aw_aret dL_fileOf_27 rfl (Or.inr ⟨_, rfl⟩) ?_
      exact h1 i k c hi0 (by omega) hj hk1 hk2 hk3 hk6
    · refine aw_astore_nN dL_fileOf_21 (by decide) rfl ?_
      refine aw_aload_nN dL_fileOf_22 rfl ?_
      refine aw_ifnull (tgt := 28) (r := none) dL_fileOf_23 (by decide) (fun _ => ?_) (fun z => absurd rfl z)
      refine ai_iinc dL_fileOf_28 rfl (by decide) rfl ?_
      refine aw_goto (tgt := 2) dL_fileOf_31 (by decide) ?_
      refine ih (by omega) (by omega) _ (fun j q1 q2 => ?_)
      by_cases e : j = i
      · subst e; exact hno
      · exact hj j q1 (by omega)
theorem sp_LfileOf {ca N : Nat} {A fA dA : Int → Nat} {cF cD : Int → Nat → Option Nat} {nF nD : Int → Int} {F : Int → Int → Int × Int × Int} {E : Int → Int → Int × Int} {a : Nat} {l k h dc g x : Int} {rp rf : Option Nat} (hO : st_CO G J ca N A fA dA cF cD nF nD F E) (hN : N ≤ 4) (hL : st_L J a l k rp ca rf h dc g) (hx : iB x) (h1 : ∀ i k c, 0 ≤ i → i < (N : Int) → (∀ j, 0 ≤ j → j < i → ∀ k, 0 ≤ k → k < nF j → ¬ (F j k).1 = x) → 0 ≤ k → k < nF i → (F i k).1 = x → J c = some (.inr (1, [.int (iI (F i k).1), .int (iI (F i k).2.1), .int (iI (F i k).2.2)])) → Q (.inl (some (.ref c))) J) (h0 : (∀ j, 0 ≤ j → j < (N : Int) → ∀ k, 0 ≤ k → k < nF j → ¬ (F j k).1 = x) → Q (.inl (some .null)) J) : aw_W G mL_fileOf (d + 1 + 1) Q 0 [some (.ref a), some (.int (iI x)), none, none] [] J kc ks := by
  refine ai_iconst dL_fileOf_0 ?_
  refine aw_istore_n dL_fileOf_1 (by decide) rfl ?_
  exact sp_LfileOf_l hO hN hL hx h1 h0 0 (by omega) (by decide) _ (fun j q1 q2 => absurd q2 (by omega))
theorem sp_LdescOf_l {ca N : Nat} {A fA dA : Int → Nat} {cF cD : Int → Nat → Option Nat} {nF nD : Int → Int} {F : Int → Int → Int × Int × Int} {E : Int → Int → Int × Int} {a : Nat} {l k h dc g x : Int} {rp rf : Option Nat} (hO : st_CO G J ca N A fA dA cF cD nF nD F E) (hN : N ≤ 4) (hL : st_L J a l k rp ca rf h dc g) (hx : iB x) (h1 : ∀ i k c, 0 ≤ i → i < (N : Int) → (∀ j, 0 ≤ j → j < i → ∀ k, 0 ≤ k → k < nD j → ¬ (E j k).1 = x) → 0 ≤ k → k < nD i → (E i k).1 = x → J c = some (.inr (2, [.int (iI (E i k).1), .int (iI (E i k).2)])) → Q (.inl (some (.ref c))) J) (h0 : (∀ j, 0 ≤ j → j < (N : Int) → ∀ k, 0 ≤ k → k < nD j → ¬ (E j k).1 = x) → Q (.inl (some .null)) J) : ∀ i : Int, i ≤ (N : Int) → 0 ≤ i → ∀ x3, (∀ j, 0 ≤ j → j < i → ∀ k, 0 ≤ k → k < nD j → ¬ (E j k).1 = x) → aw_W G mL_descriptorOf (d + 1 + 1) Q 2 [some (.ref a), some (.int (iI x)), some (.int (iI i)), x3] [] J kc ks := by
  obtain ⟨co, hco, hcA⟩ := hO.1
  refine il_up (N : Int) (fun i hi ih hi0 x3 hj => ?_)
  refine aw_iload_n dL_descriptorOf_2 rfl ?_
  first | refine aw_aload_n dL_descriptorOf_3 rfl ?_ | refine aw_aload_nQ dL_descriptorOf_3 rfl ?_ | refine aw_aload_nN dL_descriptorOf_3 rfl ?_
  refine aw_get dL_descriptorOf_4 fL_20 hL rfl ?_
  refine aw_alen dL_descriptorOf_7 rfl hco ?_
  rw [show Int32.ofNat N = iI (N : Int) from iI_ofNat N]
  refine ai_icmp_ge (tgt := 34) dL_descriptorOf_8 (by decide) (by omega) (by omega) (fun hb8 => ?_) (fun hb8 => ?_)
  · refine aw_null dL_descriptorOf_34 ?_
    refine aw_aret dL_descriptorOf_35 rfl (by first | exact Or.inr ⟨_, rfl⟩ | exact Or.inl rfl | exact aw_rf_or _) ?_
    exact h0 (fun j q1 q2 => hj j q1 (by omega))
  · first | refine aw_aload_n dL_descriptorOf_11 rfl ?_ | refine aw_aload_nQ dL_descriptorOf_11 rfl ?_ | refine aw_aload_nN dL_descriptorOf_11 rfl ?_
    refine aw_get dL_descriptorOf_12 fL_20 hL rfl ?_
    refine aw_iload_n dL_descriptorOf_15 rfl ?_
    have hr := hO.2 i hi0 (by omega)
    refine aw_aald dL_descriptorOf_16 rfl hco (iI_in (by omega) (by omega) (by omega)) ?_
    rw [iI_cl (by omega), hcA i hi0 (by omega)]
    refine aw_iload_n dL_descriptorOf_17 rfl ?_
    refine aw_callVN1 (mc' := 0) (ms' := 0) (kc' := kc) (ks' := ks) dL_descriptorOf_18 cL_34 hr.1.1 (Nat.le_of_ble_eq_true rfl) (Nat.le_of_ble_eq_true rfl) (by omega) (by omega) ?_
    refine sp_descOf hr.1 hr.2.2 hx (fun k c hk1 hk2 hk3 hk4 hk5 hk6 => ?_) (fun hno => ?_)
    · refine aw_astore_n dL_descriptorOf_21 (by decide) rfl ?_
      refine aw_aload_n dL_descriptorOf_22 rfl ?_
      refine aw_ifnull (tgt := 28) (r := some c) dL_descriptorOf_23 (by decide) (fun z => absurd z (by simp)) (fun _ => ?_)
      refine aw_aload_n dL_descriptorOf_26 rfl ?_
      refine aw_aret dL_descriptorOf_27 rfl (Or.inr ⟨_, rfl⟩) ?_
      exact h1 i k c hi0 (by omega) hj hk1 hk2 hk3 hk6
    · refine aw_astore_nN dL_descriptorOf_21 (by decide) rfl ?_
      refine aw_aload_nN dL_descriptorOf_22 rfl ?_
      refine aw_ifnull (tgt := 28) (r := none) dL_descriptorOf_23 (by decide) (fun _ => ?_) (fun z => absurd rfl z)
      refine ai_iinc dL_descriptorOf_28 rfl (by decide) rfl ?_
      refine aw_goto (tgt := 2) dL_descriptorOf_31 (by decide) ?_
      refine ih (by omega) (by omega) _ (fun j q1 q2 => ?_)
      by_cases e : j = i
      · subst e; exact hno
      · exact hj j q1 (by omega)
theorem sp_LdescOf {ca N : Nat} {A fA dA : Int → Nat} {cF cD : Int → Nat → Option Nat} {nF nD : Int → Int} {F : Int → Int → Int × Int × Int} {E : Int → Int → Int × Int} {a : Nat} {l k h dc g x : Int} {rp rf : Option Nat} (hO : st_CO G J ca N A fA dA cF cD nF nD F E) (hN : N ≤ 4) (hL : st_L J a l k rp ca rf h dc g) (hx : iB x) (h1 : ∀ i k c, 0 ≤ i → i < (N : Int) → (∀ j, 0 ≤ j → j < i → ∀ k, 0 ≤ k → k < nD j → ¬ (E j k).1 = x) → 0 ≤ k → k < nD i → (E i k).1 = x → J c = some (.inr (2, [.int (iI (E i k).1), .int (iI (E i k).2)])) → Q (.inl (some (.ref c))) J) (h0 : (∀ j, 0 ≤ j → j < (N : Int) → ∀ k, 0 ≤ k → k < nD j → ¬ (E j k).1 = x) → Q (.inl (some .null)) J) : aw_W G mL_descriptorOf (d + 1 + 1) Q 0 [some (.ref a), some (.int (iI x)), none, none] [] J kc ks := by
  refine ai_iconst dL_descriptorOf_0 ?_
  refine aw_istore_n dL_descriptorOf_1 (by decide) rfl ?_
  exact sp_LdescOf_l hO hN hL hx h1 h0 0 (by omega) (by decide) _ (fun j q1 q2 => absurd q2 (by omega))
end ST8
