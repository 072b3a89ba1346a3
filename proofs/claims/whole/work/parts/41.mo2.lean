theorem mo_uz_1 (s : mo_S) (k : Nat) (x : Int) (j : Nat) : (mo_uz s k x).1 j = if j = k then x else s.1 j := rfl
theorem mo_uz_2 (s : mo_S) (k : Nat) (x : Int) : (mo_uz s k x).2 = s.2 := rfl
theorem mo_uf_1 (s : mo_S) (k : Nat) (i x : Int) : (mo_uf s k i x).1 = s.1 := rfl
theorem mo_uf_2 (s : mo_S) (k : Nat) (i x : Int) (j : Nat) (q : Int) : (mo_uf s k i x).2.1 j q = if j = k ∧ q = i then x else s.2.1 j q := rfl
theorem mo_uf_22 (s : mo_S) (k : Nat) (i x : Int) : (mo_uf s k i x).2.2 = s.2.2 := rfl
theorem mo_ug_1 (s : mo_S) (k : Nat) (i : Int) (x : Int64) : (mo_ug s k i x).1 = s.1 := rfl
theorem mo_ug_2 (s : mo_S) (k : Nat) (i : Int) (x : Int64) : (mo_ug s k i x).2.1 = s.2.1 := rfl
theorem mo_ug_22 (s : mo_S) (k : Nat) (i : Int) (x : Int64) (j : Nat) (q : Int) : (mo_ug s k i x).2.2 j q = if j = k ∧ q = i then x else s.2.2 j q := rfl
/-! the reference: file, descriptor, child, add, filter, loader, info, isA, applied -/
section MO2
variable {G : aw_G} {b : Nat} {ad : Nat → Nat} {d : Nat} {Q : aw_O → mo_S → Prop} {s : mo_S} {kc ks : Nat}
theorem mo_noScope {p : Int} (hp : iB p) (h1 : ¬ (0 ≤ p ∧ p < s.1 12) → Q (.inl (some (.int (iI 1)))) s) (h0 : 0 ≤ p ∧ p < s.1 12 → Q (.inl (some (.int (iI 0)))) s) : mw G b ad mM_noScope d Q 0 [some (.ref b), some (.int (iI p))] [] s kc ks := by
  refine mw_iload_n dM_noScope_0 rfl ?_
  refine mw_if_lt (tgt := 12) dM_noScope_1 (by decide) (by first | omega | (simp only [mo_uz_1, mo_uz_2, mo_uf_1, mo_uf_2, mo_uf_22, mo_ug_1, mo_ug_2, mo_ug_22, mo_len, Nat.reduceEqDiff, false_and, true_and, and_true, and_false, if_false, if_true, reduceIte, ite_true, ite_false, ne_eq, not_true_eq_false, not_false_eq_true] at *; omega)) (fun hb1 => ?_) (fun hb1 => ?_)
  · refine mw_iconst dM_noScope_12 ?_
    refine mw_goto (tgt := 17) dM_noScope_13 (by decide) ?_
    refine mw_zret dM_noScope_17 rfl (by first | omega | (simp only [mo_uz_1, mo_uz_2, mo_uf_1, mo_uf_2, mo_uf_22, mo_ug_1, mo_ug_2, mo_ug_22, mo_len, Nat.reduceEqDiff, false_and, true_and, and_true, and_false, if_false, if_true, reduceIte, ite_true, ite_false, ne_eq, not_true_eq_false, not_false_eq_true] at *; omega)) ?_
    first | exact h1 (by omega) | exact h0 (by omega)
  · refine mw_iload_n dM_noScope_4 rfl ?_
    refine mw_aload_n dM_noScope_5 rfl ?_
    refine mw_getI dM_noScope_6 fM_45 rfl (fun hv6 => ?_)
    refine mw_icmp_lt (tgt := 16) dM_noScope_9 (by decide) (by first | omega | (simp only [mo_uz_1, mo_uz_2, mo_uf_1, mo_uf_2, mo_uf_22, mo_ug_1, mo_ug_2, mo_ug_22, mo_len, Nat.reduceEqDiff, false_and, true_and, and_true, and_false, if_false, if_true, reduceIte, ite_true, ite_false, ne_eq, not_true_eq_false, not_false_eq_true] at *; omega)) (by first | omega | (simp only [mo_uz_1, mo_uz_2, mo_uf_1, mo_uf_2, mo_uf_22, mo_ug_1, mo_ug_2, mo_ug_22, mo_len, Nat.reduceEqDiff, false_and, true_and, and_true, and_false, if_false, if_true, reduceIte, ite_true, ite_false, ne_eq, not_true_eq_false, not_false_eq_true] at *; omega)) (fun hb9 => ?_) (fun hb9 => ?_)
    · refine mw_iconst dM_noScope_16 ?_
      refine mw_zret dM_noScope_17 rfl (by first | omega | (simp only [mo_uz_1, mo_uz_2, mo_uf_1, mo_uf_2, mo_uf_22, mo_ug_1, mo_ug_2, mo_ug_22, mo_len, Nat.reduceEqDiff, false_and, true_and, and_true, and_false, if_false, if_true, reduceIte, ite_true, ite_false, ne_eq, not_true_eq_false, not_false_eq_true] at *; omega)) ?_
      first | exact h1 (by omega) | exact h0 (by omega)
    · refine mw_iconst dM_noScope_12 ?_
      refine mw_goto (tgt := 17) dM_noScope_13 (by decide) ?_
      refine mw_zret dM_noScope_17 rfl (by first | omega | (simp only [mo_uz_1, mo_uz_2, mo_uf_1, mo_uf_2, mo_uf_22, mo_ug_1, mo_ug_2, mo_ug_22, mo_len, Nat.reduceEqDiff, false_and, true_and, and_true, and_false, if_false, if_true, reduceIte, ite_true, ite_false, ne_eq, not_true_eq_false, not_false_eq_true] at *; omega)) ?_
      first | exact h1 (by omega) | exact h0 (by omega)

theorem mo_child {p : Int} (hp : iB p) (hs : 1 ≤ s.1 12 ∧ s.1 12 ≤ 12) (hbad : ¬ (0 ≤ p ∧ p < s.1 12 ∧ s.2.1 13 p ≠ 2) → Q (.inl (some (.int (iI 0)))) (mo_uz s 0 1)) (hfull : 0 ≤ p ∧ p < s.1 12 ∧ s.2.1 13 p ≠ 2 → s.1 12 = 12 → Q (.inl (some (.int (iI 0)))) (mo_uz (mo_uz s 0 0) 0 2)) (hok : 0 ≤ p ∧ p < s.1 12 ∧ s.2.1 13 p ≠ 2 → s.1 12 < 12 → Q (.inl (some (.int (iI (s.1 12 + 1 - 1))))) (mo_uz (mo_uf (mo_uz (mo_uz s 0 0) 0 0) 14 (s.1 12) p) 12 (s.1 12 + 1))) : mw G b ad mM_child (d + 1) Q 0 [some (.ref b), some (.int (iI p))] [] s kc ks := by
  refine mw_aload_n dM_child_0 rfl ?_
  refine mw_aload_n dM_child_1 rfl ?_
  refine mw_iload_n dM_child_2 rfl ?_
  refine mw_callV1 dM_child_3 cM_140 (Nat.le_of_ble_eq_true rfl) (Nat.le_of_ble_eq_true rfl) rfl ?_
  refine mo_noScope (by first | omega | (simp only [mo_uz_1, mo_uz_2, mo_uf_1, mo_uf_2, mo_uf_22, mo_ug_1, mo_ug_2, mo_ug_22, mo_len, Nat.reduceEqDiff, false_and, true_and, and_true, and_false, if_false, if_true, reduceIte, ite_true, ite_false, ne_eq, not_true_eq_false, not_false_eq_true] at *; omega)) (fun hn3 => ?_) (fun hn3 => ?_)
  · refine mw_if_ne (tgt := 19) dM_child_6 (by decide) (by first | omega | (simp only [mo_uz_1, mo_uz_2, mo_uf_1, mo_uf_2, mo_uf_22, mo_ug_1, mo_ug_2, mo_ug_22, mo_len, Nat.reduceEqDiff, false_and, true_and, and_true, and_false, if_false, if_true, reduceIte, ite_true, ite_false, ne_eq, not_true_eq_false, not_false_eq_true] at *; omega)) (fun _ => ?_) (fun hb6 => absurd hb6 (by decide))
    refine mw_iconst dM_child_19 ?_
    refine mw_goto (tgt := 24) dM_child_20 (by decide) ?_
    refine mw_iconst dM_child_24 ?_
    refine mw_callV2 dM_child_25 cM_110 (Nat.le_of_ble_eq_true rfl) (Nat.le_of_ble_eq_true rfl) rfl ?_
    refine mo_fails1 (by decide) ?_
    refine mw_if_ne (tgt := 53) dM_child_28 (by decide) (by first | omega | (simp only [mo_uz_1, mo_uz_2, mo_uf_1, mo_uf_2, mo_uf_22, mo_ug_1, mo_ug_2, mo_ug_22, mo_len, Nat.reduceEqDiff, false_and, true_and, and_true, and_false, if_false, if_true, reduceIte, ite_true, ite_false, ne_eq, not_true_eq_false, not_false_eq_true] at *; omega)) (fun _ => ?_) (fun hb28 => absurd hb28 (by decide))
    refine mw_iconst dM_child_53 ?_
    refine mw_iret dM_child_54 rfl ?_
    first | exact hbad (by first | omega | (simp only [mo_uz_1, mo_uz_2, mo_uf_1, mo_uf_2, mo_uf_22, mo_ug_1, mo_ug_2, mo_ug_22, mo_len, Nat.reduceEqDiff, false_and, true_and, and_true, and_false, if_false, if_true, reduceIte, ite_true, ite_false, ne_eq, not_true_eq_false, not_false_eq_true] at *; omega)) | exact hfull (by first | omega | (simp only [mo_uz_1, mo_uz_2, mo_uf_1, mo_uf_2, mo_uf_22, mo_ug_1, mo_ug_2, mo_ug_22, mo_len, Nat.reduceEqDiff, false_and, true_and, and_true, and_false, if_false, if_true, reduceIte, ite_true, ite_false, ne_eq, not_true_eq_false, not_false_eq_true] at *; omega)) (by first | omega | (simp only [mo_uz_1, mo_uz_2, mo_uf_1, mo_uf_2, mo_uf_22, mo_ug_1, mo_ug_2, mo_ug_22, mo_len, Nat.reduceEqDiff, false_and, true_and, and_true, and_false, if_false, if_true, reduceIte, ite_true, ite_false, ne_eq, not_true_eq_false, not_false_eq_true] at *; omega)) | exact hok (by first | omega | (simp only [mo_uz_1, mo_uz_2, mo_uf_1, mo_uf_2, mo_uf_22, mo_ug_1, mo_ug_2, mo_ug_22, mo_len, Nat.reduceEqDiff, false_and, true_and, and_true, and_false, if_false, if_true, reduceIte, ite_true, ite_false, ne_eq, not_true_eq_false, not_false_eq_true] at *; omega)) (by first | omega | (simp only [mo_uz_1, mo_uz_2, mo_uf_1, mo_uf_2, mo_uf_22, mo_ug_1, mo_ug_2, mo_ug_22, mo_len, Nat.reduceEqDiff, false_and, true_and, and_true, and_false, if_false, if_true, reduceIte, ite_true, ite_false, ne_eq, not_true_eq_false, not_false_eq_true] at *; omega))
  · refine mw_if_ne (tgt := 19) dM_child_6 (by decide) (by first | omega | (simp only [mo_uz_1, mo_uz_2, mo_uf_1, mo_uf_2, mo_uf_22, mo_ug_1, mo_ug_2, mo_ug_22, mo_len, Nat.reduceEqDiff, false_and, true_and, and_true, and_false, if_false, if_true, reduceIte, ite_true, ite_false, ne_eq, not_true_eq_false, not_false_eq_true] at *; omega)) (fun hb6 => absurd hb6 (by decide)) (fun _ => ?_)
    refine mw_aload_n dM_child_9 rfl ?_
    refine mw_get dM_child_10 fM_49 rfl ?_
    refine mw_iload_n dM_child_13 rfl ?_
    refine mw_iald dM_child_14 rfl rfl (by first | omega | (simp only [mo_uz_1, mo_uz_2, mo_uf_1, mo_uf_2, mo_uf_22, mo_ug_1, mo_ug_2, mo_ug_22, mo_len, Nat.reduceEqDiff, false_and, true_and, and_true, and_false, if_false, if_true, reduceIte, ite_true, ite_false, ne_eq, not_true_eq_false, not_false_eq_true] at *; omega)) (by first | omega | (simp only [mo_uz_1, mo_uz_2, mo_uf_1, mo_uf_2, mo_uf_22, mo_ug_1, mo_ug_2, mo_ug_22, mo_len, Nat.reduceEqDiff, false_and, true_and, and_true, and_false, if_false, if_true, reduceIte, ite_true, ite_false, ne_eq, not_true_eq_false, not_false_eq_true] at *; omega)) (fun hv14 => ?_)
    refine mw_iconst dM_child_15 ?_
    refine mw_icmp_ne (tgt := 23) dM_child_16 (by decide) (by first | omega | (simp only [mo_uz_1, mo_uz_2, mo_uf_1, mo_uf_2, mo_uf_22, mo_ug_1, mo_ug_2, mo_ug_22, mo_len, Nat.reduceEqDiff, false_and, true_and, and_true, and_false, if_false, if_true, reduceIte, ite_true, ite_false, ne_eq, not_true_eq_false, not_false_eq_true] at *; omega)) (by first | omega | (simp only [mo_uz_1, mo_uz_2, mo_uf_1, mo_uf_2, mo_uf_22, mo_ug_1, mo_ug_2, mo_ug_22, mo_len, Nat.reduceEqDiff, false_and, true_and, and_true, and_false, if_false, if_true, reduceIte, ite_true, ite_false, ne_eq, not_true_eq_false, not_false_eq_true] at *; omega)) (fun hb16 => ?_) (fun hb16 => ?_)
    · refine mw_iconst dM_child_23 ?_
      refine mw_iconst dM_child_24 ?_
      refine mw_callV2 dM_child_25 cM_110 (Nat.le_of_ble_eq_true rfl) (Nat.le_of_ble_eq_true rfl) rfl ?_
      refine mo_fails0 (by decide) ?_
      refine mw_if_ne (tgt := 53) dM_child_28 (by decide) (by first | omega | (simp only [mo_uz_1, mo_uz_2, mo_uf_1, mo_uf_2, mo_uf_22, mo_ug_1, mo_ug_2, mo_ug_22, mo_len, Nat.reduceEqDiff, false_and, true_and, and_true, and_false, if_false, if_true, reduceIte, ite_true, ite_false, ne_eq, not_true_eq_false, not_false_eq_true] at *; omega)) (fun hb28 => absurd hb28 (by decide)) (fun _ => ?_)
      refine mw_aload_n dM_child_31 rfl ?_
      refine mw_aload_n dM_child_32 rfl ?_
      refine mw_getI dM_child_33 fM_45 rfl (fun hv33 => ?_)
      refine mw_bipush dM_child_36 (by decide +kernel) ?_
      refine mw_icmp_ne (tgt := 45) dM_child_38 (by decide) (by first | omega | (simp only [mo_uz_1, mo_uz_2, mo_uf_1, mo_uf_2, mo_uf_22, mo_ug_1, mo_ug_2, mo_ug_22, mo_len, Nat.reduceEqDiff, false_and, true_and, and_true, and_false, if_false, if_true, reduceIte, ite_true, ite_false, ne_eq, not_true_eq_false, not_false_eq_true] at *; omega)) (by first | omega | (simp only [mo_uz_1, mo_uz_2, mo_uf_1, mo_uf_2, mo_uf_22, mo_ug_1, mo_ug_2, mo_ug_22, mo_len, Nat.reduceEqDiff, false_and, true_and, and_true, and_false, if_false, if_true, reduceIte, ite_true, ite_false, ne_eq, not_true_eq_false, not_false_eq_true] at *; omega)) (fun hb38 => ?_) (fun hb38 => ?_)
      · refine mw_iconst dM_child_45 ?_
        refine mw_iconst dM_child_46 ?_
        refine mw_callV2 dM_child_47 cM_110 (Nat.le_of_ble_eq_true rfl) (Nat.le_of_ble_eq_true rfl) rfl ?_
        refine mo_fails0 (by decide) ?_
        refine mw_if_eq (tgt := 55) dM_child_50 (by decide) (by first | omega | (simp only [mo_uz_1, mo_uz_2, mo_uf_1, mo_uf_2, mo_uf_22, mo_ug_1, mo_ug_2, mo_ug_22, mo_len, Nat.reduceEqDiff, false_and, true_and, and_true, and_false, if_false, if_true, reduceIte, ite_true, ite_false, ne_eq, not_true_eq_false, not_false_eq_true] at *; omega)) (fun _ => ?_) (fun hb50 => absurd hb50 (by decide))
        refine mw_aload_n dM_child_55 rfl ?_
        refine mw_get dM_child_56 fM_52 rfl ?_
        refine mw_aload_n dM_child_59 rfl ?_
        refine mw_getI dM_child_60 fM_45 rfl (fun hv60 => ?_)
        refine mw_iload_n dM_child_63 rfl ?_
        refine mw_iast dM_child_64 rfl rfl (by first | omega | (simp only [mo_uz_1, mo_uz_2, mo_uf_1, mo_uf_2, mo_uf_22, mo_ug_1, mo_ug_2, mo_ug_22, mo_len, Nat.reduceEqDiff, false_and, true_and, and_true, and_false, if_false, if_true, reduceIte, ite_true, ite_false, ne_eq, not_true_eq_false, not_false_eq_true] at *; omega)) (by first | omega | (simp only [mo_uz_1, mo_uz_2, mo_uf_1, mo_uf_2, mo_uf_22, mo_ug_1, mo_ug_2, mo_ug_22, mo_len, Nat.reduceEqDiff, false_and, true_and, and_true, and_false, if_false, if_true, reduceIte, ite_true, ite_false, ne_eq, not_true_eq_false, not_false_eq_true] at *; omega)) (by first | omega | (simp only [mo_uz_1, mo_uz_2, mo_uf_1, mo_uf_2, mo_uf_22, mo_ug_1, mo_ug_2, mo_ug_22, mo_len, Nat.reduceEqDiff, false_and, true_and, and_true, and_false, if_false, if_true, reduceIte, ite_true, ite_false, ne_eq, not_true_eq_false, not_false_eq_true] at *; omega)) ?_
        refine mw_aload_n dM_child_65 rfl ?_
        refine mw_dup dM_child_66 rfl ?_
        refine mw_getI dM_child_67 fM_45 rfl (fun hv67 => ?_)
        refine mw_iconst dM_child_70 ?_
        refine mw_iadd dM_child_71 ?_
        refine mw_putI dM_child_72 sM_45 (by decide) rfl (by first | omega | (simp only [mo_uz_1, mo_uz_2, mo_uf_1, mo_uf_2, mo_uf_22, mo_ug_1, mo_ug_2, mo_ug_22, mo_len, Nat.reduceEqDiff, false_and, true_and, and_true, and_false, if_false, if_true, reduceIte, ite_true, ite_false, ne_eq, not_true_eq_false, not_false_eq_true] at *; omega)) ?_
        refine mw_aload_n dM_child_75 rfl ?_
        refine mw_getI dM_child_76 fM_45 rfl (fun hv76 => ?_)
        refine mw_iconst dM_child_79 ?_
        refine mw_isub dM_child_80 ?_
        refine mw_iret dM_child_81 rfl ?_
        first | exact hbad (by first | omega | (simp only [mo_uz_1, mo_uz_2, mo_uf_1, mo_uf_2, mo_uf_22, mo_ug_1, mo_ug_2, mo_ug_22, mo_len, Nat.reduceEqDiff, false_and, true_and, and_true, and_false, if_false, if_true, reduceIte, ite_true, ite_false, ne_eq, not_true_eq_false, not_false_eq_true] at *; omega)) | exact hfull (by first | omega | (simp only [mo_uz_1, mo_uz_2, mo_uf_1, mo_uf_2, mo_uf_22, mo_ug_1, mo_ug_2, mo_ug_22, mo_len, Nat.reduceEqDiff, false_and, true_and, and_true, and_false, if_false, if_true, reduceIte, ite_true, ite_false, ne_eq, not_true_eq_false, not_false_eq_true] at *; omega)) (by first | omega | (simp only [mo_uz_1, mo_uz_2, mo_uf_1, mo_uf_2, mo_uf_22, mo_ug_1, mo_ug_2, mo_ug_22, mo_len, Nat.reduceEqDiff, false_and, true_and, and_true, and_false, if_false, if_true, reduceIte, ite_true, ite_false, ne_eq, not_true_eq_false, not_false_eq_true] at *; omega)) | exact hok (by first | omega | (simp only [mo_uz_1, mo_uz_2, mo_uf_1, mo_uf_2, mo_uf_22, mo_ug_1, mo_ug_2, mo_ug_22, mo_len, Nat.reduceEqDiff, false_and, true_and, and_true, and_false, if_false, if_true, reduceIte, ite_true, ite_false, ne_eq, not_true_eq_false, not_false_eq_true] at *; omega)) (by first | omega | (simp only [mo_uz_1, mo_uz_2, mo_uf_1, mo_uf_2, mo_uf_22, mo_ug_1, mo_ug_2, mo_ug_22, mo_len, Nat.reduceEqDiff, false_and, true_and, and_true, and_false, if_false, if_true, reduceIte, ite_true, ite_false, ne_eq, not_true_eq_false, not_false_eq_true] at *; omega))
      · refine mw_iconst dM_child_41 ?_
        refine mw_goto (tgt := 46) dM_child_42 (by decide) ?_
        refine mw_iconst dM_child_46 ?_
        refine mw_callV2 dM_child_47 cM_110 (Nat.le_of_ble_eq_true rfl) (Nat.le_of_ble_eq_true rfl) rfl ?_
        refine mo_fails1 (by decide) ?_
        refine mw_if_eq (tgt := 55) dM_child_50 (by decide) (by first | omega | (simp only [mo_uz_1, mo_uz_2, mo_uf_1, mo_uf_2, mo_uf_22, mo_ug_1, mo_ug_2, mo_ug_22, mo_len, Nat.reduceEqDiff, false_and, true_and, and_true, and_false, if_false, if_true, reduceIte, ite_true, ite_false, ne_eq, not_true_eq_false, not_false_eq_true] at *; omega)) (fun hb50 => absurd hb50 (by decide)) (fun _ => ?_)
        refine mw_iconst dM_child_53 ?_
        refine mw_iret dM_child_54 rfl ?_
        first | exact hbad (by first | omega | (simp only [mo_uz_1, mo_uz_2, mo_uf_1, mo_uf_2, mo_uf_22, mo_ug_1, mo_ug_2, mo_ug_22, mo_len, Nat.reduceEqDiff, false_and, true_and, and_true, and_false, if_false, if_true, reduceIte, ite_true, ite_false, ne_eq, not_true_eq_false, not_false_eq_true] at *; omega)) | exact hfull (by first | omega | (simp only [mo_uz_1, mo_uz_2, mo_uf_1, mo_uf_2, mo_uf_22, mo_ug_1, mo_ug_2, mo_ug_22, mo_len, Nat.reduceEqDiff, false_and, true_and, and_true, and_false, if_false, if_true, reduceIte, ite_true, ite_false, ne_eq, not_true_eq_false, not_false_eq_true] at *; omega)) (by first | omega | (simp only [mo_uz_1, mo_uz_2, mo_uf_1, mo_uf_2, mo_uf_22, mo_ug_1, mo_ug_2, mo_ug_22, mo_len, Nat.reduceEqDiff, false_and, true_and, and_true, and_false, if_false, if_true, reduceIte, ite_true, ite_false, ne_eq, not_true_eq_false, not_false_eq_true] at *; omega)) | exact hok (by first | omega | (simp only [mo_uz_1, mo_uz_2, mo_uf_1, mo_uf_2, mo_uf_22, mo_ug_1, mo_ug_2, mo_ug_22, mo_len, Nat.reduceEqDiff, false_and, true_and, and_true, and_false, if_false, if_true, reduceIte, ite_true, ite_false, ne_eq, not_true_eq_false, not_false_eq_true] at *; omega)) (by first | omega | (simp only [mo_uz_1, mo_uz_2, mo_uf_1, mo_uf_2, mo_uf_22, mo_ug_1, mo_ug_2, mo_ug_22, mo_len, Nat.reduceEqDiff, false_and, true_and, and_true, and_false, if_false, if_true, reduceIte, ite_true, ite_false, ne_eq, not_true_eq_false, not_false_eq_true] at *; omega))
    · refine mw_iconst dM_child_19 ?_
      refine mw_goto (tgt := 24) dM_child_20 (by decide) ?_
      refine mw_iconst dM_child_24 ?_
      refine mw_callV2 dM_child_25 cM_110 (Nat.le_of_ble_eq_true rfl) (Nat.le_of_ble_eq_true rfl) rfl ?_
      refine mo_fails1 (by decide) ?_
      refine mw_if_ne (tgt := 53) dM_child_28 (by decide) (by first | omega | (simp only [mo_uz_1, mo_uz_2, mo_uf_1, mo_uf_2, mo_uf_22, mo_ug_1, mo_ug_2, mo_ug_22, mo_len, Nat.reduceEqDiff, false_and, true_and, and_true, and_false, if_false, if_true, reduceIte, ite_true, ite_false, ne_eq, not_true_eq_false, not_false_eq_true] at *; omega)) (fun _ => ?_) (fun hb28 => absurd hb28 (by decide))
      refine mw_iconst dM_child_53 ?_
      refine mw_iret dM_child_54 rfl ?_
      first | exact hbad (by first | omega | (simp only [mo_uz_1, mo_uz_2, mo_uf_1, mo_uf_2, mo_uf_22, mo_ug_1, mo_ug_2, mo_ug_22, mo_len, Nat.reduceEqDiff, false_and, true_and, and_true, and_false, if_false, if_true, reduceIte, ite_true, ite_false, ne_eq, not_true_eq_false, not_false_eq_true] at *; omega)) | exact hfull (by first | omega | (simp only [mo_uz_1, mo_uz_2, mo_uf_1, mo_uf_2, mo_uf_22, mo_ug_1, mo_ug_2, mo_ug_22, mo_len, Nat.reduceEqDiff, false_and, true_and, and_true, and_false, if_false, if_true, reduceIte, ite_true, ite_false, ne_eq, not_true_eq_false, not_false_eq_true] at *; omega)) (by first | omega | (simp only [mo_uz_1, mo_uz_2, mo_uf_1, mo_uf_2, mo_uf_22, mo_ug_1, mo_ug_2, mo_ug_22, mo_len, Nat.reduceEqDiff, false_and, true_and, and_true, and_false, if_false, if_true, reduceIte, ite_true, ite_false, ne_eq, not_true_eq_false, not_false_eq_true] at *; omega)) | exact hok (by first | omega | (simp only [mo_uz_1, mo_uz_2, mo_uf_1, mo_uf_2, mo_uf_22, mo_ug_1, mo_ug_2, mo_ug_22, mo_len, Nat.reduceEqDiff, false_and, true_and, and_true, and_false, if_false, if_true, reduceIte, ite_true, ite_false, ne_eq, not_true_eq_false, not_false_eq_true] at *; omega)) (by first | omega | (simp only [mo_uz_1, mo_uz_2, mo_uf_1, mo_uf_2, mo_uf_22, mo_ug_1, mo_ug_2, mo_ug_22, mo_len, Nat.reduceEqDiff, false_and, true_and, and_true, and_false, if_false, if_true, reduceIte, ite_true, ite_false, ne_eq, not_true_eq_false, not_false_eq_true] at *; omega))

end MO2
