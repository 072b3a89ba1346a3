/-! the class: isLike -/
section ST7
variable {G : aw_G} {d : Nat} {Q : aw_O → aw_J → Prop} {J : aw_J} {kc ks : Nat}
def st_lf (n : Int) (F F' : Int → Int × Int × Int) (k : Int) : Prop := ∀ i, 0 ≤ i → i < k → ∃ j, 0 ≤ j ∧ j < n ∧ F' j = F i
def st_le (m : Int) (E E' : Int → Int × Int) (k : Int) : Prop := ∀ i, 0 ≤ i → i < k → ∃ j, 0 ≤ j ∧ j < m ∧ E' j = E i
theorem st_lf_s {n k : Int} {F F' : Int → Int × Int × Int} (h : st_lf n F F' k) (hj : ∃ j, 0 ≤ j ∧ j < n ∧ F' j = F k) : st_lf n F F' (k + 1) := fun i q1 q2 => by
  by_cases e : i = k
  · rw [e]; exact hj
  · exact h i q1 (by omega)
theorem st_le_s {n k : Int} {F F' : Int → Int × Int} (h : st_le n F F' k) (hj : ∃ j, 0 ≤ j ∧ j < n ∧ F' j = F k) : st_le n F F' (k + 1) := fun i q1 q2 => by
  by_cases e : i = k
  · rw [e]; exact hj
  · exact h i q1 (by omega)
theorem sp_like_l1 {a fa da c fc dc : Nat} {cf cd cf' cd' : Nat → Option Nat} {n m n' m' : Int} {F F' : Int → Int × Int × Int} (hA : st_A G J a fa da cf cd n m) (hC : st_A G J c fc dc cf' cd' n' m') (hF : st_CF J cf n F) (hF' : st_CF J cf' n' F') (hb : ∀ i, iB (F i).2.1 ∧ iB (F i).2.2 ∧ iB (F' i).2.1 ∧ iB (F' i).2.2) (hu : ∀ j k, 0 ≤ j → j < n' → 0 ≤ k → k < n' → (F' j).1 = (F' k).1 → j = k) (h0' : ¬ st_lf n' F F' n → Q (.inl (some (.int (iI 0)))) J) (hk : st_lf n' F F' n → aw_W G mA_isLike (d + 1 + 1) Q 67 [some (.ref a), some (.ref c), some (.int (iI n))] [] J kc ks) : ∀ i : Int, i ≤ n → 0 ≤ i → st_lf n' F F' i → aw_W G mA_isLike (d + 1 + 1) Q 26 [some (.ref a), some (.ref c), some (.int (iI i))] [] J kc ks := by
  have hn8 := hA.2.2.2.1
  refine il_up n (fun i hi ih h0 hl => ?_)
  refine aw_iload_n dA_isLike_26 rfl ?_
  first | refine aw_aload_n dA_isLike_27 rfl ?_ | refine aw_aload_nQ dA_isLike_27 rfl ?_ | refine aw_aload_nN dA_isLike_27 rfl ?_
  refine aw_get dA_isLike_28 fA_27 hA.1 rfl ?_
  refine ai_icmp_ge (tgt := 67) dA_isLike_31 (by decide) (by omega) (by omega) (fun hb31 => ?_) (fun hb31 => ?_)
  · have e9 : i = n := by omega
    subst e9
    exact hk hl
  · first | refine aw_aload_n dA_isLike_34 rfl ?_ | refine aw_aload_nQ dA_isLike_34 rfl ?_ | refine aw_aload_nN dA_isLike_34 rfl ?_
    refine aw_get dA_isLike_35 fA_11 hA.1 rfl ?_
    refine aw_iload_n dA_isLike_38 rfl ?_
    obtain ⟨hFb, c1, hc1, hc2⟩ := hF i h0 (by omega)
    refine aw_aald dA_isLike_39 rfl hA.2.1 (iI_in (by omega) (by omega) (by omega)) ?_
    rw [iI_cl (by omega), hc1]
    first | refine aw_aload_n dA_isLike_40 rfl ?_ | refine aw_aload_nQ dA_isLike_40 rfl ?_ | refine aw_aload_nN dA_isLike_40 rfl ?_
    first | refine aw_aload_n dA_isLike_41 rfl ?_ | refine aw_aload_nQ dA_isLike_41 rfl ?_ | refine aw_aload_nN dA_isLike_41 rfl ?_
    refine aw_get dA_isLike_42 fA_11 hA.1 rfl ?_
    refine aw_iload_n dA_isLike_45 rfl ?_
    refine aw_aald dA_isLike_46 rfl hA.2.1 (iI_in (by omega) (by omega) (by omega)) ?_
    rw [iI_cl (by omega), hc1]
    refine aw_get dA_isLike_47 fA_37 hc2 rfl ?_
    refine aw_callV1 (mc' := 0) (ms' := 0) (kc' := kc) (ks' := ks) dA_isLike_50 cA_50 hC.1 (Nat.le_of_ble_eq_true rfl) (Nat.le_of_ble_eq_true rfl) (by omega) (by omega) rfl ?_
    refine sp_fileOf hC hF' hFb (fun k c2 hk1 hk2 hk3 hk4 hk5 hk6 => ?_) (fun hno => ?_)
    · refine aw_callVN1 (mc' := 0) (ms' := 0) (kc' := kc) (ks' := ks) dA_isLike_53 cA_54 hc2 (Nat.le_of_ble_eq_true rfl) (Nat.le_of_ble_eq_true rfl) (by omega) (by omega) ?_
      refine sp_Csame hFb (hF' k hk1 hk2).1 (hb i).1 (hb k).2.2.1 (hb i).2.1 (hb k).2.2.2 hc2 hk6 (fun hs => ?_) (fun hs => ?_)
      · refine ai_if_ne (tgt := 61) dA_isLike_56 (by decide) (by omega) (fun _ => ?_) (fun hb56 => absurd hb56 (by decide))
        refine ai_iinc dA_isLike_61 rfl (by decide) rfl ?_
        refine aw_goto (tgt := 26) dA_isLike_64 (by decide) ?_
        exact ih (by omega) (by omega) (st_lf_s hl ⟨k, hk1, hk2, Prod.ext hs.1.symm (Prod.ext hs.2.1.symm hs.2.2.symm)⟩)
      · refine ai_if_ne (tgt := 61) dA_isLike_56 (by decide) (by omega) (fun hb56 => absurd hb56 (by decide)) (fun _ => ?_)
        refine ai_iconst dA_isLike_59 ?_
        refine aw_zret dA_isLike_60 rfl (by decide +kernel) ?_
        first
          | exact h0' (fun z => by
              obtain ⟨j, q1, q2, q3⟩ := z i h0 (by omega)
              exact hno j q1 q2 (by rw [q3]))
          | exact h0' (fun z => by
              obtain ⟨j, q1, q2, q3⟩ := z i h0 (by omega)
              have e := hu j k q1 q2 hk1 hk2 (by rw [q3, hk3])
              subst e
              exact hs (by rw [q3]; exact ⟨rfl, rfl, rfl⟩))
    · refine aw_callVN1 (mc' := 0) (ms' := 0) (kc' := kc) (ks' := ks) dA_isLike_53 cA_54 hc2 (Nat.le_of_ble_eq_true rfl) (Nat.le_of_ble_eq_true rfl) (by omega) (by omega) ?_
      refine sp_CsameN ?_
      refine ai_if_ne (tgt := 61) dA_isLike_56 (by decide) (by omega) (fun hb56 => absurd hb56 (by decide)) (fun _ => ?_)
      refine ai_iconst dA_isLike_59 ?_
      refine aw_zret dA_isLike_60 rfl (by decide +kernel) ?_
      first
        | exact h0' (fun z => by
            obtain ⟨j, q1, q2, q3⟩ := z i h0 (by omega)
            exact hno j q1 q2 (by rw [q3]))
        | exact h0' (fun z => by
            obtain ⟨j, q1, q2, q3⟩ := z i h0 (by omega)
            have e := hu j k q1 q2 hk1 hk2 (by rw [q3, hk3])
            subst e
            exact hs (by rw [q3]; exact ⟨rfl, rfl, rfl⟩))
theorem sp_like_l2 {a fa da c fc dc : Nat} {cf cd cf' cd' : Nat → Option Nat} {n m n' m' : Int} {E E' : Int → Int × Int} (hA : st_A G J a fa da cf cd n m) (hC : st_A G J c fc dc cf' cd' n' m') (hE : st_DE J cd m E) (hE' : st_DE J cd' m' E') (hbe : ∀ i, iB (E i).2 ∧ iB (E' i).2) (hue : ∀ j k, 0 ≤ j → j < m' → 0 ≤ k → k < m' → (E' j).1 = (E' k).1 → j = k) (h0' : ¬ st_le m' E E' m → Q (.inl (some (.int (iI 0)))) J) (hk : st_le m' E E' m → Q (.inl (some (.int (iI 1)))) J) : ∀ i : Int, i ≤ m → 0 ≤ i → st_le m' E E' i → aw_W G mA_isLike (d + 1 + 1) Q 69 [some (.ref a), some (.ref c), some (.int (iI i))] [] J kc ks := by
  have hn8 := hA.2.2.2.2
  refine il_up m (fun i hi ih h0 hl => ?_)
  refine aw_iload_n dA_isLike_69 rfl ?_
  first | refine aw_aload_n dA_isLike_70 rfl ?_ | refine aw_aload_nQ dA_isLike_70 rfl ?_ | refine aw_aload_nN dA_isLike_70 rfl ?_
  refine aw_get dA_isLike_71 fA_34 hA.1 rfl ?_
  refine ai_icmp_ge (tgt := 110) dA_isLike_74 (by decide) (by omega) (by omega) (fun hb74 => ?_) (fun hb74 => ?_)
  · refine ai_iconst dA_isLike_110 ?_
    refine aw_zret dA_isLike_111 rfl (by decide +kernel) ?_
    have e9 : i = m := by omega
    subst e9
    exact hk hl
  · first | refine aw_aload_n dA_isLike_77 rfl ?_ | refine aw_aload_nQ dA_isLike_77 rfl ?_ | refine aw_aload_nN dA_isLike_77 rfl ?_
    refine aw_get dA_isLike_78 fA_19 hA.1 rfl ?_
    refine aw_iload_n dA_isLike_81 rfl ?_
    obtain ⟨hFb, c1, hc1, hc2⟩ := hE i h0 (by omega)
    refine aw_aald dA_isLike_82 rfl hA.2.2.1 (iI_in (by omega) (by omega) (by omega)) ?_
    rw [iI_cl (by omega), hc1]
    first | refine aw_aload_n dA_isLike_83 rfl ?_ | refine aw_aload_nQ dA_isLike_83 rfl ?_ | refine aw_aload_nN dA_isLike_83 rfl ?_
    first | refine aw_aload_n dA_isLike_84 rfl ?_ | refine aw_aload_nQ dA_isLike_84 rfl ?_ | refine aw_aload_nN dA_isLike_84 rfl ?_
    refine aw_get dA_isLike_85 fA_19 hA.1 rfl ?_
    refine aw_iload_n dA_isLike_88 rfl ?_
    refine aw_aald dA_isLike_89 rfl hA.2.2.1 (iI_in (by omega) (by omega) (by omega)) ?_
    rw [iI_cl (by omega), hc1]
    refine aw_get dA_isLike_90 fA_46 hc2 rfl ?_
    refine aw_callV1 (mc' := 0) (ms' := 0) (kc' := kc) (ks' := ks) dA_isLike_93 cA_58 hC.1 (Nat.le_of_ble_eq_true rfl) (Nat.le_of_ble_eq_true rfl) (by omega) (by omega) rfl ?_
    refine sp_descOf hC hE' hFb (fun k c2 hk1 hk2 hk3 hk4 hk5 hk6 => ?_) (fun hno => ?_)
    · refine aw_callVN1 (mc' := 0) (ms' := 0) (kc' := kc) (ks' := ks) dA_isLike_96 cA_62 hc2 (Nat.le_of_ble_eq_true rfl) (Nat.le_of_ble_eq_true rfl) (by omega) (by omega) ?_
      refine sp_Dsame hFb (hE' k hk1 hk2).1 (hbe i).1 (hbe k).2 hc2 hk6 (fun hs => ?_) (fun hs => ?_)
      · refine ai_if_ne (tgt := 104) dA_isLike_99 (by decide) (by omega) (fun _ => ?_) (fun hb99 => absurd hb99 (by decide))
        refine ai_iinc dA_isLike_104 rfl (by decide) rfl ?_
        refine aw_goto (tgt := 69) dA_isLike_107 (by decide) ?_
        exact ih (by omega) (by omega) (st_le_s hl ⟨k, hk1, hk2, Prod.ext hs.1.symm hs.2.symm⟩)
      · refine ai_if_ne (tgt := 104) dA_isLike_99 (by decide) (by omega) (fun hb99 => absurd hb99 (by decide)) (fun _ => ?_)
        refine ai_iconst dA_isLike_102 ?_
        refine aw_zret dA_isLike_103 rfl (by decide +kernel) ?_
        first
          | exact h0' (fun z => by
              obtain ⟨j, q1, q2, q3⟩ := z i h0 (by omega)
              exact hno j q1 q2 (by rw [q3]))
          | exact h0' (fun z => by
              obtain ⟨j, q1, q2, q3⟩ := z i h0 (by omega)
              have e := hue j k q1 q2 hk1 hk2 (by rw [q3, hk3])
              subst e
              exact hs (by rw [q3]; exact ⟨rfl, rfl⟩))
    · refine aw_callVN1 (mc' := 0) (ms' := 0) (kc' := kc) (ks' := ks) dA_isLike_96 cA_62 hc2 (Nat.le_of_ble_eq_true rfl) (Nat.le_of_ble_eq_true rfl) (by omega) (by omega) ?_
      refine sp_DsameN ?_
      refine ai_if_ne (tgt := 104) dA_isLike_99 (by decide) (by omega) (fun hb99 => absurd hb99 (by decide)) (fun _ => ?_)
      refine ai_iconst dA_isLike_102 ?_
      refine aw_zret dA_isLike_103 rfl (by decide +kernel) ?_
      first
        | exact h0' (fun z => by
            obtain ⟨j, q1, q2, q3⟩ := z i h0 (by omega)
            exact hno j q1 q2 (by rw [q3]))
        | exact h0' (fun z => by
            obtain ⟨j, q1, q2, q3⟩ := z i h0 (by omega)
            have e := hue j k q1 q2 hk1 hk2 (by rw [q3, hk3])
            subst e
            exact hs (by rw [q3]; exact ⟨rfl, rfl⟩))
theorem sp_isLike {a fa da c fc dc : Nat} {cf cd cf' cd' : Nat → Option Nat} {n m n' m' : Int} {F F' : Int → Int × Int × Int} {E E' : Int → Int × Int} (hA : st_A G J a fa da cf cd n m) (hC : st_A G J c fc dc cf' cd' n' m') (hF : st_CF J cf n F) (hF' : st_CF J cf' n' F') (hb : ∀ i, iB (F i).2.1 ∧ iB (F i).2.2 ∧ iB (F' i).2.1 ∧ iB (F' i).2.2) (hu : ∀ j k, 0 ≤ j → j < n' → 0 ≤ k → k < n' → (F' j).1 = (F' k).1 → j = k) (hE : st_DE J cd m E) (hE' : st_DE J cd' m' E') (hbe : ∀ i, iB (E i).2 ∧ iB (E' i).2) (hue : ∀ j k, 0 ≤ j → j < m' → 0 ≤ k → k < m' → (E' j).1 = (E' k).1 → j = k) (h1 : ((n = n' ∧ m = m') ∧ st_lf n' F F' n ∧ st_le m' E E' m) → Q (.inl (some (.int (iI 1)))) J) (h0 : ¬ ((n = n' ∧ m = m') ∧ st_lf n' F F' n ∧ st_le m' E E' m) → Q (.inl (some (.int (iI 0)))) J) : aw_W G mA_isLike (d + 1 + 1) Q 0 [some (.ref a), some (.ref c), none] [] J kc ks := by
  have hn8 := hA.2.2.2
  have hc8 := hC.2.2.2
  first | refine aw_aload_n dA_isLike_0 rfl ?_ | refine aw_aload_nQ dA_isLike_0 rfl ?_ | refine aw_aload_nN dA_isLike_0 rfl ?_
  refine aw_get dA_isLike_1 fA_27 hA.1 rfl ?_
  first | refine aw_aload_n dA_isLike_4 rfl ?_ | refine aw_aload_nQ dA_isLike_4 rfl ?_ | refine aw_aload_nN dA_isLike_4 rfl ?_
  refine aw_get dA_isLike_5 fA_27 hC.1 rfl ?_
  refine ai_icmp_ne (tgt := 22) dA_isLike_8 (by decide) (by omega) (by omega) (fun hb8 => ?_) (fun hb8 => ?_)
  · refine ai_iconst dA_isLike_22 ?_
    refine aw_zret dA_isLike_23 rfl (by decide +kernel) ?_
    exact h0 (fun y => by have := y.1; omega)
  · first | refine aw_aload_n dA_isLike_11 rfl ?_ | refine aw_aload_nQ dA_isLike_11 rfl ?_ | refine aw_aload_nN dA_isLike_11 rfl ?_
    refine aw_get dA_isLike_12 fA_34 hA.1 rfl ?_
    first | refine aw_aload_n dA_isLike_15 rfl ?_ | refine aw_aload_nQ dA_isLike_15 rfl ?_ | refine aw_aload_nN dA_isLike_15 rfl ?_
    refine aw_get dA_isLike_16 fA_34 hC.1 rfl ?_
    refine ai_icmp_eq (tgt := 24) dA_isLike_19 (by decide) (by omega) (by omega) (fun hb19 => ?_) (fun hb19 => ?_)
    · refine ai_iconst dA_isLike_24 ?_
      refine aw_istore_n dA_isLike_25 (by decide) rfl ?_
      refine sp_like_l1 hA hC hF hF' hb hu (fun z => h0 (fun y => z y.2.1)) (fun hl => ?_) 0 hA.2.2.2.1.1 (by decide) (fun i q1 q2 => absurd q2 (by omega))
      refine ai_iconst dA_isLike_67 ?_
      refine aw_istore_n dA_isLike_68 (by decide) rfl ?_
      exact sp_like_l2 hA hC hE hE' hbe hue (fun z => h0 (fun y => z y.2.2)) (fun hl2 => h1 ⟨⟨by omega, by omega⟩, hl, hl2⟩) 0 hA.2.2.2.2.1 (by decide) (fun i q1 q2 => absurd q2 (by omega))
    · refine ai_iconst dA_isLike_22 ?_
      refine aw_zret dA_isLike_23 rfl (by decide +kernel) ?_
      exact h0 (fun y => by have := y.1; omega)

end ST7
