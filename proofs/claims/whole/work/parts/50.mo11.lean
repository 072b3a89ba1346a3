/-! the reference: filtering, defining -/
section MO11
variable {G : aw_G} {b : Nat} {ad : Nat → Nat} {d : Nat} {Q : aw_O → mo_S → Prop} {s : mo_S} {kc ks : Nat}
/-- the loader l is a filtering one as the scope c wants it, of the parent p -/
def mo_fm (s : mo_S) (c p l : Int) : Prop := (¬ s.2.1 5 l = 0 ∧ s.2.1 6 l = 2 ∧ s.2.1 7 l = p ∧ s.2.1 9 l = s.2.1 18 c) ∧ s.2.2 10 l = s.2.2 19 c ∧ s.2.2 11 l = s.2.2 20 c
def mo_newf (s : mo_S) (c p l : Int) : mo_S := mo_ug (mo_ug (mo_uf (mo_uf (mo_uf (mo_uf (mo_uf s 5 l 1) 6 l 2) 7 l p) 8 l 0) 9 l (s.2.1 18 c)) 10 l (s.2.2 19 c)) 11 l (s.2.2 20 c)
theorem mo_filtering_l {c p : Int} (hc : 0 ≤ c ∧ c ≤ 11) (hp : iB p) (hfree : ∃ j, 1 ≤ j ∧ j ≤ 40 ∧ s.2.1 5 j = 0) (hold : ∀ l, 1 ≤ l → l ≤ 40 → (∀ j, 1 ≤ j → j < l → ¬ mo_fm s c p j) → mo_fm s c p l → Q (.inl (some (.int (iI l)))) s) (hnew : (∀ j, 1 ≤ j → j ≤ 40 → ¬ mo_fm s c p j) → ∀ l, 1 ≤ l → l ≤ 40 → (∀ j, 1 ≤ j → j < l → s.2.1 5 j ≠ 0) → s.2.1 5 l = 0 → Q (.inl (some (.int (iI l)))) (mo_newf s c p l)) : ∀ l : Int, l ≤ 41 → 1 ≤ l → (∀ j, 1 ≤ j → j < l → ¬ mo_fm s c p j) → mw G b ad mM_filtering (d + 1 + 1) Q 13 [some (.ref b), some (.int (iI c)), some (.int (iI p)), some (.int (iI l))] [] s kc ks := by
  refine il_up 41 (fun l hl ih h0 hj => ?_)
  refine mw_iload_n dM_filtering_13 rfl ?_
  refine mw_bipush dM_filtering_14 (by decide +kernel) ?_
  refine mw_icmp_ge (tgt := 103) dM_filtering_16 (by decide) (by first | omega | (simp only [mo_uz_1, mo_uz_2, mo_uf_1, mo_uf_2, mo_uf_22, mo_ug_1, mo_ug_2, mo_ug_22, mo_len, Nat.reduceEqDiff, false_and, true_and, and_true, and_false, if_false, if_true, reduceIte, ite_true, ite_false, ne_eq, not_true_eq_false, not_false_eq_true] at *; omega)) (by first | omega | (simp only [mo_uz_1, mo_uz_2, mo_uf_1, mo_uf_2, mo_uf_22, mo_ug_1, mo_ug_2, mo_ug_22, mo_len, Nat.reduceEqDiff, false_and, true_and, and_true, and_false, if_false, if_true, reduceIte, ite_true, ite_false, ne_eq, not_true_eq_false, not_false_eq_true] at *; omega)) (fun hb16 => ?_) (fun hb16 => ?_)
  · refine mw_aload_n dM_filtering_103 rfl ?_
    refine mw_iconst dM_filtering_104 ?_
    refine mw_iload_n dM_filtering_105 rfl ?_
    refine mw_callV2 dM_filtering_106 cM_129 (Nat.le_of_ble_eq_true rfl) (Nat.le_of_ble_eq_true rfl) rfl ?_
    refine mo_begin (by decide) hp hfree (fun l hl1 hl2 hl3 hl4 => ?_)
    refine mw_istore_n dM_filtering_109 (by decide) rfl ?_
    refine mw_aload_n dM_filtering_110 rfl ?_
    refine mw_get dM_filtering_111 fM_35 rfl ?_
    refine mw_iload_n dM_filtering_114 rfl ?_
    refine mw_aload_n dM_filtering_115 rfl ?_
    refine mw_get dM_filtering_116 fM_64 rfl ?_
    refine mw_iload_n dM_filtering_119 rfl ?_
    refine mw_iald dM_filtering_120 rfl rfl (by first | omega | (simp only [mo_uz_1, mo_uz_2, mo_uf_1, mo_uf_2, mo_uf_22, mo_ug_1, mo_ug_2, mo_ug_22, mo_len, Nat.reduceEqDiff, false_and, true_and, and_true, and_false, if_false, if_true, reduceIte, ite_true, ite_false, ne_eq, not_true_eq_false, not_false_eq_true] at *; omega)) (by first | omega | (simp only [mo_uz_1, mo_uz_2, mo_uf_1, mo_uf_2, mo_uf_22, mo_ug_1, mo_ug_2, mo_ug_22, mo_len, Nat.reduceEqDiff, false_and, true_and, and_true, and_false, if_false, if_true, reduceIte, ite_true, ite_false, ne_eq, not_true_eq_false, not_false_eq_true] at *; omega)) (fun hv120 => ?_)
    refine mw_iast dM_filtering_121 rfl rfl (by first | omega | (simp only [mo_uz_1, mo_uz_2, mo_uf_1, mo_uf_2, mo_uf_22, mo_ug_1, mo_ug_2, mo_ug_22, mo_len, Nat.reduceEqDiff, false_and, true_and, and_true, and_false, if_false, if_true, reduceIte, ite_true, ite_false, ne_eq, not_true_eq_false, not_false_eq_true] at *; omega)) (by first | omega | (simp only [mo_uz_1, mo_uz_2, mo_uf_1, mo_uf_2, mo_uf_22, mo_ug_1, mo_ug_2, mo_ug_22, mo_len, Nat.reduceEqDiff, false_and, true_and, and_true, and_false, if_false, if_true, reduceIte, ite_true, ite_false, ne_eq, not_true_eq_false, not_false_eq_true] at *; omega)) (by first | omega | (simp only [mo_uz_1, mo_uz_2, mo_uf_1, mo_uf_2, mo_uf_22, mo_ug_1, mo_ug_2, mo_ug_22, mo_len, Nat.reduceEqDiff, false_and, true_and, and_true, and_false, if_false, if_true, reduceIte, ite_true, ite_false, ne_eq, not_true_eq_false, not_false_eq_true] at *; omega)) ?_
    refine mw_aload_n dM_filtering_122 rfl ?_
    refine mw_get dM_filtering_123 fM_38 rfl ?_
    refine mw_iload_n dM_filtering_126 rfl ?_
    refine mw_aload_n dM_filtering_127 rfl ?_
    refine mw_get dM_filtering_128 fM_67 rfl ?_
    refine mw_iload_n dM_filtering_131 rfl ?_
    refine mw_lald dM_filtering_132 rfl rfl (by first | omega | (simp only [mo_uz_1, mo_uz_2, mo_uf_1, mo_uf_2, mo_uf_22, mo_ug_1, mo_ug_2, mo_ug_22, mo_len, Nat.reduceEqDiff, false_and, true_and, and_true, and_false, if_false, if_true, reduceIte, ite_true, ite_false, ne_eq, not_true_eq_false, not_false_eq_true] at *; omega)) (by first | omega | (simp only [mo_uz_1, mo_uz_2, mo_uf_1, mo_uf_2, mo_uf_22, mo_ug_1, mo_ug_2, mo_ug_22, mo_len, Nat.reduceEqDiff, false_and, true_and, and_true, and_false, if_false, if_true, reduceIte, ite_true, ite_false, ne_eq, not_true_eq_false, not_false_eq_true] at *; omega)) ?_
    refine mw_last dM_filtering_133 rfl rfl (by first | omega | (simp only [mo_uz_1, mo_uz_2, mo_uf_1, mo_uf_2, mo_uf_22, mo_ug_1, mo_ug_2, mo_ug_22, mo_len, Nat.reduceEqDiff, false_and, true_and, and_true, and_false, if_false, if_true, reduceIte, ite_true, ite_false, ne_eq, not_true_eq_false, not_false_eq_true] at *; omega)) (by first | omega | (simp only [mo_uz_1, mo_uz_2, mo_uf_1, mo_uf_2, mo_uf_22, mo_ug_1, mo_ug_2, mo_ug_22, mo_len, Nat.reduceEqDiff, false_and, true_and, and_true, and_false, if_false, if_true, reduceIte, ite_true, ite_false, ne_eq, not_true_eq_false, not_false_eq_true] at *; omega)) ?_
    refine mw_aload_n dM_filtering_134 rfl ?_
    refine mw_get dM_filtering_135 fM_42 rfl ?_
    refine mw_iload_n dM_filtering_138 rfl ?_
    refine mw_aload_n dM_filtering_139 rfl ?_
    refine mw_get dM_filtering_140 fM_70 rfl ?_
    refine mw_iload_n dM_filtering_143 rfl ?_
    refine mw_lald dM_filtering_144 rfl rfl (by first | omega | (simp only [mo_uz_1, mo_uz_2, mo_uf_1, mo_uf_2, mo_uf_22, mo_ug_1, mo_ug_2, mo_ug_22, mo_len, Nat.reduceEqDiff, false_and, true_and, and_true, and_false, if_false, if_true, reduceIte, ite_true, ite_false, ne_eq, not_true_eq_false, not_false_eq_true] at *; omega)) (by first | omega | (simp only [mo_uz_1, mo_uz_2, mo_uf_1, mo_uf_2, mo_uf_22, mo_ug_1, mo_ug_2, mo_ug_22, mo_len, Nat.reduceEqDiff, false_and, true_and, and_true, and_false, if_false, if_true, reduceIte, ite_true, ite_false, ne_eq, not_true_eq_false, not_false_eq_true] at *; omega)) ?_
    refine mw_last dM_filtering_145 rfl rfl (by first | omega | (simp only [mo_uz_1, mo_uz_2, mo_uf_1, mo_uf_2, mo_uf_22, mo_ug_1, mo_ug_2, mo_ug_22, mo_len, Nat.reduceEqDiff, false_and, true_and, and_true, and_false, if_false, if_true, reduceIte, ite_true, ite_false, ne_eq, not_true_eq_false, not_false_eq_true] at *; omega)) (by first | omega | (simp only [mo_uz_1, mo_uz_2, mo_uf_1, mo_uf_2, mo_uf_22, mo_ug_1, mo_ug_2, mo_ug_22, mo_len, Nat.reduceEqDiff, false_and, true_and, and_true, and_false, if_false, if_true, reduceIte, ite_true, ite_false, ne_eq, not_true_eq_false, not_false_eq_true] at *; omega)) ?_
    refine mw_iload_n dM_filtering_146 rfl ?_
    refine mw_iret dM_filtering_147 rfl ?_
    exact hnew (fun j q1 q2 => hj j q1 (by omega)) _ hl1 hl2 hl3 hl4
  · refine mw_aload_n dM_filtering_19 rfl ?_
    refine mw_get dM_filtering_20 fM_22 rfl ?_
    refine mw_iload_n dM_filtering_23 rfl ?_
    refine mw_zald dM_filtering_24 rfl rfl (by first | omega | (simp only [mo_uz_1, mo_uz_2, mo_uf_1, mo_uf_2, mo_uf_22, mo_ug_1, mo_ug_2, mo_ug_22, mo_len, Nat.reduceEqDiff, false_and, true_and, and_true, and_false, if_false, if_true, reduceIte, ite_true, ite_false, ne_eq, not_true_eq_false, not_false_eq_true] at *; omega)) (by first | omega | (simp only [mo_uz_1, mo_uz_2, mo_uf_1, mo_uf_2, mo_uf_22, mo_ug_1, mo_ug_2, mo_ug_22, mo_len, Nat.reduceEqDiff, false_and, true_and, and_true, and_false, if_false, if_true, reduceIte, ite_true, ite_false, ne_eq, not_true_eq_false, not_false_eq_true] at *; omega)) (fun hv24 => ?_)
    refine mw_if_eq (tgt := 97) dM_filtering_25 (by decide) (by first | omega | (simp only [mo_uz_1, mo_uz_2, mo_uf_1, mo_uf_2, mo_uf_22, mo_ug_1, mo_ug_2, mo_ug_22, mo_len, Nat.reduceEqDiff, false_and, true_and, and_true, and_false, if_false, if_true, reduceIte, ite_true, ite_false, ne_eq, not_true_eq_false, not_false_eq_true] at *; omega)) (fun hb25 => ?_) (fun hb25 => ?_)
    · refine mw_iinc dM_filtering_97 rfl (by decide) rfl ?_
      refine mw_goto (tgt := 13) dM_filtering_100 (by decide) ?_
      refine ih (by omega) (by omega) (fun j q1 q2 => ?_)
      by_cases e : j = l
      · subst e
        intro z
        first
          | (obtain ⟨z, _⟩ := z; omega)
          | exact hb76 ((mo_lcmp _ _).mpr z.2.1)
          | exact hb92 ((mo_lcmp _ _).mpr z.2.2)
      · exact hj j q1 (by omega)
    · refine mw_aload_n dM_filtering_28 rfl ?_
      refine mw_get dM_filtering_29 fM_26 rfl ?_
      refine mw_iload_n dM_filtering_32 rfl ?_
      refine mw_iald dM_filtering_33 rfl rfl (by first | omega | (simp only [mo_uz_1, mo_uz_2, mo_uf_1, mo_uf_2, mo_uf_22, mo_ug_1, mo_ug_2, mo_ug_22, mo_len, Nat.reduceEqDiff, false_and, true_and, and_true, and_false, if_false, if_true, reduceIte, ite_true, ite_false, ne_eq, not_true_eq_false, not_false_eq_true] at *; omega)) (by first | omega | (simp only [mo_uz_1, mo_uz_2, mo_uf_1, mo_uf_2, mo_uf_22, mo_ug_1, mo_ug_2, mo_ug_22, mo_len, Nat.reduceEqDiff, false_and, true_and, and_true, and_false, if_false, if_true, reduceIte, ite_true, ite_false, ne_eq, not_true_eq_false, not_false_eq_true] at *; omega)) (fun hv33 => ?_)
      refine mw_iconst dM_filtering_34 ?_
      refine mw_icmp_ne (tgt := 97) dM_filtering_35 (by decide) (by first | omega | (simp only [mo_uz_1, mo_uz_2, mo_uf_1, mo_uf_2, mo_uf_22, mo_ug_1, mo_ug_2, mo_ug_22, mo_len, Nat.reduceEqDiff, false_and, true_and, and_true, and_false, if_false, if_true, reduceIte, ite_true, ite_false, ne_eq, not_true_eq_false, not_false_eq_true] at *; omega)) (by first | omega | (simp only [mo_uz_1, mo_uz_2, mo_uf_1, mo_uf_2, mo_uf_22, mo_ug_1, mo_ug_2, mo_ug_22, mo_len, Nat.reduceEqDiff, false_and, true_and, and_true, and_false, if_false, if_true, reduceIte, ite_true, ite_false, ne_eq, not_true_eq_false, not_false_eq_true] at *; omega)) (fun hb35 => ?_) (fun hb35 => ?_)
      · refine mw_iinc dM_filtering_97 rfl (by decide) rfl ?_
        refine mw_goto (tgt := 13) dM_filtering_100 (by decide) ?_
        refine ih (by omega) (by omega) (fun j q1 q2 => ?_)
        by_cases e : j = l
        · subst e
          intro z
          first
            | (obtain ⟨z, _⟩ := z; omega)
            | exact hb76 ((mo_lcmp _ _).mpr z.2.1)
            | exact hb92 ((mo_lcmp _ _).mpr z.2.2)
        · exact hj j q1 (by omega)
      · refine mw_aload_n dM_filtering_38 rfl ?_
        refine mw_get dM_filtering_39 fM_29 rfl ?_
        refine mw_iload_n dM_filtering_42 rfl ?_
        refine mw_iald dM_filtering_43 rfl rfl (by first | omega | (simp only [mo_uz_1, mo_uz_2, mo_uf_1, mo_uf_2, mo_uf_22, mo_ug_1, mo_ug_2, mo_ug_22, mo_len, Nat.reduceEqDiff, false_and, true_and, and_true, and_false, if_false, if_true, reduceIte, ite_true, ite_false, ne_eq, not_true_eq_false, not_false_eq_true] at *; omega)) (by first | omega | (simp only [mo_uz_1, mo_uz_2, mo_uf_1, mo_uf_2, mo_uf_22, mo_ug_1, mo_ug_2, mo_ug_22, mo_len, Nat.reduceEqDiff, false_and, true_and, and_true, and_false, if_false, if_true, reduceIte, ite_true, ite_false, ne_eq, not_true_eq_false, not_false_eq_true] at *; omega)) (fun hv43 => ?_)
        refine mw_iload_n dM_filtering_44 rfl ?_
        refine mw_icmp_ne (tgt := 97) dM_filtering_45 (by decide) (by first | omega | (simp only [mo_uz_1, mo_uz_2, mo_uf_1, mo_uf_2, mo_uf_22, mo_ug_1, mo_ug_2, mo_ug_22, mo_len, Nat.reduceEqDiff, false_and, true_and, and_true, and_false, if_false, if_true, reduceIte, ite_true, ite_false, ne_eq, not_true_eq_false, not_false_eq_true] at *; omega)) (by first | omega | (simp only [mo_uz_1, mo_uz_2, mo_uf_1, mo_uf_2, mo_uf_22, mo_ug_1, mo_ug_2, mo_ug_22, mo_len, Nat.reduceEqDiff, false_and, true_and, and_true, and_false, if_false, if_true, reduceIte, ite_true, ite_false, ne_eq, not_true_eq_false, not_false_eq_true] at *; omega)) (fun hb45 => ?_) (fun hb45 => ?_)
        · refine mw_iinc dM_filtering_97 rfl (by decide) rfl ?_
          refine mw_goto (tgt := 13) dM_filtering_100 (by decide) ?_
          refine ih (by omega) (by omega) (fun j q1 q2 => ?_)
          by_cases e : j = l
          · subst e
            intro z
            first
              | (obtain ⟨z, _⟩ := z; omega)
              | exact hb76 ((mo_lcmp _ _).mpr z.2.1)
              | exact hb92 ((mo_lcmp _ _).mpr z.2.2)
          · exact hj j q1 (by omega)
        · refine mw_aload_n dM_filtering_48 rfl ?_
          refine mw_get dM_filtering_49 fM_35 rfl ?_
          refine mw_iload_n dM_filtering_52 rfl ?_
          refine mw_iald dM_filtering_53 rfl rfl (by first | omega | (simp only [mo_uz_1, mo_uz_2, mo_uf_1, mo_uf_2, mo_uf_22, mo_ug_1, mo_ug_2, mo_ug_22, mo_len, Nat.reduceEqDiff, false_and, true_and, and_true, and_false, if_false, if_true, reduceIte, ite_true, ite_false, ne_eq, not_true_eq_false, not_false_eq_true] at *; omega)) (by first | omega | (simp only [mo_uz_1, mo_uz_2, mo_uf_1, mo_uf_2, mo_uf_22, mo_ug_1, mo_ug_2, mo_ug_22, mo_len, Nat.reduceEqDiff, false_and, true_and, and_true, and_false, if_false, if_true, reduceIte, ite_true, ite_false, ne_eq, not_true_eq_false, not_false_eq_true] at *; omega)) (fun hv53 => ?_)
          refine mw_aload_n dM_filtering_54 rfl ?_
          refine mw_get dM_filtering_55 fM_64 rfl ?_
          refine mw_iload_n dM_filtering_58 rfl ?_
          refine mw_iald dM_filtering_59 rfl rfl (by first | omega | (simp only [mo_uz_1, mo_uz_2, mo_uf_1, mo_uf_2, mo_uf_22, mo_ug_1, mo_ug_2, mo_ug_22, mo_len, Nat.reduceEqDiff, false_and, true_and, and_true, and_false, if_false, if_true, reduceIte, ite_true, ite_false, ne_eq, not_true_eq_false, not_false_eq_true] at *; omega)) (by first | omega | (simp only [mo_uz_1, mo_uz_2, mo_uf_1, mo_uf_2, mo_uf_22, mo_ug_1, mo_ug_2, mo_ug_22, mo_len, Nat.reduceEqDiff, false_and, true_and, and_true, and_false, if_false, if_true, reduceIte, ite_true, ite_false, ne_eq, not_true_eq_false, not_false_eq_true] at *; omega)) (fun hv59 => ?_)
          refine mw_icmp_ne (tgt := 97) dM_filtering_60 (by decide) (by first | omega | (simp only [mo_uz_1, mo_uz_2, mo_uf_1, mo_uf_2, mo_uf_22, mo_ug_1, mo_ug_2, mo_ug_22, mo_len, Nat.reduceEqDiff, false_and, true_and, and_true, and_false, if_false, if_true, reduceIte, ite_true, ite_false, ne_eq, not_true_eq_false, not_false_eq_true] at *; omega)) (by first | omega | (simp only [mo_uz_1, mo_uz_2, mo_uf_1, mo_uf_2, mo_uf_22, mo_ug_1, mo_ug_2, mo_ug_22, mo_len, Nat.reduceEqDiff, false_and, true_and, and_true, and_false, if_false, if_true, reduceIte, ite_true, ite_false, ne_eq, not_true_eq_false, not_false_eq_true] at *; omega)) (fun hb60 => ?_) (fun hb60 => ?_)
          · refine mw_iinc dM_filtering_97 rfl (by decide) rfl ?_
            refine mw_goto (tgt := 13) dM_filtering_100 (by decide) ?_
            refine ih (by omega) (by omega) (fun j q1 q2 => ?_)
            by_cases e : j = l
            · subst e
              intro z
              first
                | (obtain ⟨z, _⟩ := z; omega)
                | exact hb76 ((mo_lcmp _ _).mpr z.2.1)
                | exact hb92 ((mo_lcmp _ _).mpr z.2.2)
            · exact hj j q1 (by omega)
          · refine mw_aload_n dM_filtering_63 rfl ?_
            refine mw_get dM_filtering_64 fM_38 rfl ?_
            refine mw_iload_n dM_filtering_67 rfl ?_
            refine mw_lald dM_filtering_68 rfl rfl (by first | omega | (simp only [mo_uz_1, mo_uz_2, mo_uf_1, mo_uf_2, mo_uf_22, mo_ug_1, mo_ug_2, mo_ug_22, mo_len, Nat.reduceEqDiff, false_and, true_and, and_true, and_false, if_false, if_true, reduceIte, ite_true, ite_false, ne_eq, not_true_eq_false, not_false_eq_true] at *; omega)) (by first | omega | (simp only [mo_uz_1, mo_uz_2, mo_uf_1, mo_uf_2, mo_uf_22, mo_ug_1, mo_ug_2, mo_ug_22, mo_len, Nat.reduceEqDiff, false_and, true_and, and_true, and_false, if_false, if_true, reduceIte, ite_true, ite_false, ne_eq, not_true_eq_false, not_false_eq_true] at *; omega)) ?_
            refine mw_aload_n dM_filtering_69 rfl ?_
            refine mw_get dM_filtering_70 fM_67 rfl ?_
            refine mw_iload_n dM_filtering_73 rfl ?_
            refine mw_lald dM_filtering_74 rfl rfl (by first | omega | (simp only [mo_uz_1, mo_uz_2, mo_uf_1, mo_uf_2, mo_uf_22, mo_ug_1, mo_ug_2, mo_ug_22, mo_len, Nat.reduceEqDiff, false_and, true_and, and_true, and_false, if_false, if_true, reduceIte, ite_true, ite_false, ne_eq, not_true_eq_false, not_false_eq_true] at *; omega)) (by first | omega | (simp only [mo_uz_1, mo_uz_2, mo_uf_1, mo_uf_2, mo_uf_22, mo_ug_1, mo_ug_2, mo_ug_22, mo_len, Nat.reduceEqDiff, false_and, true_and, and_true, and_false, if_false, if_true, reduceIte, ite_true, ite_false, ne_eq, not_true_eq_false, not_false_eq_true] at *; omega)) ?_
            refine mw_lcmp dM_filtering_75 ?_
            refine mw_rif_ne (tgt := 97) dM_filtering_76 (by decide) (fun hb76 => ?_) (fun hb76 => ?_)
            · refine mw_iinc dM_filtering_97 rfl (by decide) rfl ?_
              refine mw_goto (tgt := 13) dM_filtering_100 (by decide) ?_
              refine ih (by omega) (by omega) (fun j q1 q2 => ?_)
              by_cases e : j = l
              · subst e
                intro z
                first
                  | (obtain ⟨z, _⟩ := z; omega)
                  | exact hb76 ((mo_lcmp _ _).mpr z.2.1)
                  | exact hb92 ((mo_lcmp _ _).mpr z.2.2)
              · exact hj j q1 (by omega)
            · refine mw_aload_n dM_filtering_79 rfl ?_
              refine mw_get dM_filtering_80 fM_42 rfl ?_
              refine mw_iload_n dM_filtering_83 rfl ?_
              refine mw_lald dM_filtering_84 rfl rfl (by first | omega | (simp only [mo_uz_1, mo_uz_2, mo_uf_1, mo_uf_2, mo_uf_22, mo_ug_1, mo_ug_2, mo_ug_22, mo_len, Nat.reduceEqDiff, false_and, true_and, and_true, and_false, if_false, if_true, reduceIte, ite_true, ite_false, ne_eq, not_true_eq_false, not_false_eq_true] at *; omega)) (by first | omega | (simp only [mo_uz_1, mo_uz_2, mo_uf_1, mo_uf_2, mo_uf_22, mo_ug_1, mo_ug_2, mo_ug_22, mo_len, Nat.reduceEqDiff, false_and, true_and, and_true, and_false, if_false, if_true, reduceIte, ite_true, ite_false, ne_eq, not_true_eq_false, not_false_eq_true] at *; omega)) ?_
              refine mw_aload_n dM_filtering_85 rfl ?_
              refine mw_get dM_filtering_86 fM_70 rfl ?_
              refine mw_iload_n dM_filtering_89 rfl ?_
              refine mw_lald dM_filtering_90 rfl rfl (by first | omega | (simp only [mo_uz_1, mo_uz_2, mo_uf_1, mo_uf_2, mo_uf_22, mo_ug_1, mo_ug_2, mo_ug_22, mo_len, Nat.reduceEqDiff, false_and, true_and, and_true, and_false, if_false, if_true, reduceIte, ite_true, ite_false, ne_eq, not_true_eq_false, not_false_eq_true] at *; omega)) (by first | omega | (simp only [mo_uz_1, mo_uz_2, mo_uf_1, mo_uf_2, mo_uf_22, mo_ug_1, mo_ug_2, mo_ug_22, mo_len, Nat.reduceEqDiff, false_and, true_and, and_true, and_false, if_false, if_true, reduceIte, ite_true, ite_false, ne_eq, not_true_eq_false, not_false_eq_true] at *; omega)) ?_
              refine mw_lcmp dM_filtering_91 ?_
              refine mw_rif_ne (tgt := 97) dM_filtering_92 (by decide) (fun hb92 => ?_) (fun hb92 => ?_)
              · refine mw_iinc dM_filtering_97 rfl (by decide) rfl ?_
                refine mw_goto (tgt := 13) dM_filtering_100 (by decide) ?_
                refine ih (by omega) (by omega) (fun j q1 q2 => ?_)
                by_cases e : j = l
                · subst e
                  intro z
                  first
                    | (obtain ⟨z, _⟩ := z; omega)
                    | exact hb76 ((mo_lcmp _ _).mpr z.2.1)
                    | exact hb92 ((mo_lcmp _ _).mpr z.2.2)
                · exact hj j q1 (by omega)
              · refine mw_iload_n dM_filtering_95 rfl ?_
                refine mw_iret dM_filtering_96 rfl ?_
                exact hold l h0 (by omega) hj ⟨⟨by omega, by omega, by omega, by omega⟩, (mo_lcmp _ _).mp hb76, (mo_lcmp _ _).mp hb92⟩
theorem mo_filtering {c p : Int} (hc : 0 ≤ c ∧ c ≤ 11) (hp : iB p) (hfree : ∃ j, 1 ≤ j ∧ j ≤ 40 ∧ s.2.1 5 j = 0) (hno : s.2.1 17 c = 0 → Q (.inl (some (.int (iI p)))) s) (hold : ¬ s.2.1 17 c = 0 → ∀ l, 1 ≤ l → l ≤ 40 → (∀ j, 1 ≤ j → j < l → ¬ mo_fm s c p j) → mo_fm s c p l → Q (.inl (some (.int (iI l)))) s) (hnew : ¬ s.2.1 17 c = 0 → (∀ j, 1 ≤ j → j ≤ 40 → ¬ mo_fm s c p j) → ∀ l, 1 ≤ l → l ≤ 40 → (∀ j, 1 ≤ j → j < l → s.2.1 5 j ≠ 0) → s.2.1 5 l = 0 → Q (.inl (some (.int (iI l)))) (mo_newf s c p l)) : mw G b ad mM_filtering (d + 1 + 1) Q 0 [some (.ref b), some (.int (iI c)), some (.int (iI p)), none] [] s kc ks := by
  refine mw_aload_n dM_filtering_0 rfl ?_
  refine mw_get dM_filtering_1 fM_61 rfl ?_
  refine mw_iload_n dM_filtering_4 rfl ?_
  refine mw_zald dM_filtering_5 rfl rfl (by first | omega | (simp only [mo_uz_1, mo_uz_2, mo_uf_1, mo_uf_2, mo_uf_22, mo_ug_1, mo_ug_2, mo_ug_22, mo_len, Nat.reduceEqDiff, false_and, true_and, and_true, and_false, if_false, if_true, reduceIte, ite_true, ite_false, ne_eq, not_true_eq_false, not_false_eq_true] at *; omega)) (by first | omega | (simp only [mo_uz_1, mo_uz_2, mo_uf_1, mo_uf_2, mo_uf_22, mo_ug_1, mo_ug_2, mo_ug_22, mo_len, Nat.reduceEqDiff, false_and, true_and, and_true, and_false, if_false, if_true, reduceIte, ite_true, ite_false, ne_eq, not_true_eq_false, not_false_eq_true] at *; omega)) (fun hv5 => ?_)
  refine mw_if_ne (tgt := 11) dM_filtering_6 (by decide) (by first | omega | (simp only [mo_uz_1, mo_uz_2, mo_uf_1, mo_uf_2, mo_uf_22, mo_ug_1, mo_ug_2, mo_ug_22, mo_len, Nat.reduceEqDiff, false_and, true_and, and_true, and_false, if_false, if_true, reduceIte, ite_true, ite_false, ne_eq, not_true_eq_false, not_false_eq_true] at *; omega)) (fun hb6 => ?_) (fun hb6 => ?_)
  · refine mw_iconst dM_filtering_11 ?_
    refine mw_istore_n dM_filtering_12 (by decide) rfl ?_
    exact mo_filtering_l hc hp hfree (hold (by omega)) (hnew (by omega)) 1 (by decide) (by decide) (fun j q1 q2 => absurd q2 (by omega))
  · refine mw_iload_n dM_filtering_9 rfl ?_
    refine mw_iret dM_filtering_10 rfl ?_
    exact hno (by omega)

/-- the sheets of the loader l are like the scope's archives from the place f on -/
def mo_dm (s : mo_S) (f n p l : Int) : Prop := (¬ s.2.1 5 l = 0 ∧ s.2.1 6 l = 1 ∧ s.2.1 7 l = p ∧ s.2.1 8 l = n) ∧ ∀ i, 0 ≤ i → i < n → mo_alk s (s.2.1 15 (f + i)) (10 + 4 * l + i)
/-- the first i archives from the place f on are copied for the loader l -/
def mo_cpy (s : mo_S) (f l : Int) : Nat → mo_S
  | 0 => s
  | i + 1 => mo_copied (mo_cpy s f l i) (s.2.1 15 (f + (i : Int))) (10 + 4 * l + (i : Int))
theorem mo_cp_o (s : mo_S) {k k' : Nat} (h : k' ≠ k) (t f i : Int) : (mo_cp s k t f i).2.1 k' = s.2.1 k' := by
  funext q
  exact if_neg (fun e => h e.1)
theorem mo_uf_o (s : mo_S) {k k' : Nat} (h : k' ≠ k) (i x : Int) : (mo_uf s k i x).2.1 k' = s.2.1 k' := by
  funext q
  exact if_neg (fun e => h e.1)
theorem mo_copied_o (s : mo_S) {k : Nat} (h : 5 ≤ k) (f t : Int) : (mo_copied s f t).2.1 k = s.2.1 k := by
  rw [mo_cp_o _ (by omega), mo_cp_o _ (by omega), mo_uf_o _ (by omega), mo_uf_o _ (by omega)]
theorem mo_cpy_o (s : mo_S) {k : Nat} (h : 5 ≤ k) (f l : Int) (i : Nat) : (mo_cpy s f l i).2.1 k = s.2.1 k := by
  induction i with
  | zero => rfl
  | succ i ih => rw [mo_cpy, mo_copied_o _ h, ih]
theorem mo_cpy_s (s : mo_S) (f l : Int) {i : Int} (h : 0 ≤ i) : mo_cpy s f l (i + 1).toNat = mo_copied (mo_cpy s f l i.toNat) (s.2.1 15 (f + i)) (10 + 4 * l + i) := by
  have e : (i + 1).toNat = i.toNat + 1 := by omega
  have e2 : ((i.toNat : Nat) : Int) = i := by omega
  rw [e, mo_cpy, e2]
def mo_newd (s : mo_S) (f n p l : Int) : mo_S := mo_cpy (mo_uf (mo_uf (mo_uf (mo_uf (mo_uf s 5 l 1) 6 l 1) 7 l p) 8 l 0) 8 l n) f l n.toNat
theorem mo_defining_i {c w p n f l : Int} (hp : iB p) (hn : 1 ≤ n ∧ n ≤ 4) (hf : 0 ≤ f ∧ f ≤ 92) (hpv : ∀ i, 0 ≤ i → i < n → 0 ≤ s.2.1 15 (f + i) ∧ s.2.1 15 (f + i) ≤ 9) (hu0 : ∀ a, 0 ≤ a → a ≤ 9 → mo_uq s a) (hul : ∀ l i, 1 ≤ l → l ≤ 40 → ¬ s.2.1 5 l = 0 → s.2.1 6 l = 1 → 0 ≤ i → i < s.2.1 8 l → mo_uq s (10 + 4 * l + i)) (hgb : ∀ k i, iB (s.2.1 k i)) (hl : 1 ≤ l ∧ l ≤ 40) (hk : ∀ m i, ((m = 1 ∧ (¬ s.2.1 5 l = 0 ∧ s.2.1 6 l = 1 ∧ s.2.1 7 l = p ∧ s.2.1 8 l = n) ∧ ∀ j, 0 ≤ j → j < n → mo_alk s (s.2.1 15 (f + j)) (10 + 4 * l + j)) ∨ (m = 0 ∧ ¬ mo_dm s f n p l)) → mw G b ad mM_defining (d + 1 + 1) Q 137 [some (.ref b), some (.int (iI c)), some (.int (iI w)), some (.int (iI p)), some (.int (iI n)), some (.int (iI f)), some (.int (iI l)), some (.int (iI m)), some (.int (iI i))] [] s kc ks) : ∀ i : Int, i ≤ n → 0 ≤ i → ∀ m, ((m = 1 ∧ (¬ s.2.1 5 l = 0 ∧ s.2.1 6 l = 1 ∧ s.2.1 7 l = p ∧ s.2.1 8 l = n) ∧ ∀ j, 0 ≤ j → j < i → mo_alk s (s.2.1 15 (f + j)) (10 + 4 * l + j)) ∨ (m = 0 ∧ ¬ mo_dm s f n p l)) → mw G b ad mM_defining (d + 1 + 1) Q 93 [some (.ref b), some (.int (iI c)), some (.int (iI w)), some (.int (iI p)), some (.int (iI n)), some (.int (iI f)), some (.int (iI l)), some (.int (iI m)), some (.int (iI i))] [] s kc ks := by
  refine il_up n (fun i hi ih h0 m hm => ?_)
  have hmb : m = 0 ∨ m = 1 := by rcases hm with hm | hm <;> omega
  refine mw_iload dM_defining_93 rfl ?_
  refine mw_iload dM_defining_95 rfl ?_
  refine mw_icmp_ge (tgt := 137) dM_defining_97 (by decide) (by first | omega | (simp only [mo_uz_1, mo_uz_2, mo_uf_1, mo_uf_2, mo_uf_22, mo_ug_1, mo_ug_2, mo_ug_22, mo_len, Nat.reduceEqDiff, false_and, true_and, and_true, and_false, if_false, if_true, reduceIte, ite_true, ite_false, ne_eq, not_true_eq_false, not_false_eq_true] at *; omega)) (by first | omega | (simp only [mo_uz_1, mo_uz_2, mo_uf_1, mo_uf_2, mo_uf_22, mo_ug_1, mo_ug_2, mo_ug_22, mo_len, Nat.reduceEqDiff, false_and, true_and, and_true, and_false, if_false, if_true, reduceIte, ite_true, ite_false, ne_eq, not_true_eq_false, not_false_eq_true] at *; omega)) (fun hb97 => ?_) (fun hb97 => ?_)
  · refine hk m i ?_
    rcases hm with ⟨g1, g2, g3⟩ | ⟨g1, g2⟩
    · exact Or.inl ⟨g1, g2, fun j q1 q2 => g3 j q1 (by omega)⟩
    · exact Or.inr ⟨g1, g2⟩
  · refine mw_iload dM_defining_100 rfl ?_
    refine mw_if_eq (tgt := 137) dM_defining_102 (by decide) (by first | omega | (simp only [mo_uz_1, mo_uz_2, mo_uf_1, mo_uf_2, mo_uf_22, mo_ug_1, mo_ug_2, mo_ug_22, mo_len, Nat.reduceEqDiff, false_and, true_and, and_true, and_false, if_false, if_true, reduceIte, ite_true, ite_false, ne_eq, not_true_eq_false, not_false_eq_true] at *; omega)) (fun hb102 => ?_) (fun hb102 => ?_)
    · refine hk m i ?_
      rcases hm with ⟨g1, g2, g3⟩ | ⟨g1, g2⟩
      · exact Or.inl ⟨g1, g2, fun j q1 q2 => g3 j q1 (by omega)⟩
      · exact Or.inr ⟨g1, g2⟩
    · have hp9 := hpv i h0 (by omega)
      have hb9 : (¬ s.2.1 5 l = 0 ∧ s.2.1 6 l = 1 ∧ s.2.1 7 l = p ∧ s.2.1 8 l = n) := by
        rcases hm with ⟨_, g, _⟩ | ⟨g, _⟩
        · exact g
        · omega
      have hu8 := hul l i hl.1 hl.2 hb9.1 hb9.2.1 h0 (by omega)
      refine mw_aload_n dM_defining_105 rfl ?_
      refine mw_aload_n dM_defining_106 rfl ?_
      refine mw_get dM_defining_107 fM_55 rfl ?_
      refine mw_iload dM_defining_110 rfl ?_
      refine mw_iload dM_defining_112 rfl ?_
      refine mw_iadd dM_defining_114 ?_
      refine mw_iald dM_defining_115 rfl rfl (by first | omega | (simp only [mo_uz_1, mo_uz_2, mo_uf_1, mo_uf_2, mo_uf_22, mo_ug_1, mo_ug_2, mo_ug_22, mo_len, Nat.reduceEqDiff, false_and, true_and, and_true, and_false, if_false, if_true, reduceIte, ite_true, ite_false, ne_eq, not_true_eq_false, not_false_eq_true] at *; omega)) (by first | omega | (simp only [mo_uz_1, mo_uz_2, mo_uf_1, mo_uf_2, mo_uf_22, mo_ug_1, mo_ug_2, mo_ug_22, mo_len, Nat.reduceEqDiff, false_and, true_and, and_true, and_false, if_false, if_true, reduceIte, ite_true, ite_false, ne_eq, not_true_eq_false, not_false_eq_true] at *; omega)) (fun hv115 => ?_)
      refine mw_bipush dM_defining_116 (by decide +kernel) ?_
      refine mw_iconst dM_defining_118 ?_
      refine mw_iload dM_defining_119 rfl ?_
      refine mw_imul dM_defining_121 ?_
      refine mw_iadd dM_defining_122 ?_
      refine mw_iload dM_defining_123 rfl ?_
      refine mw_iadd dM_defining_125 ?_
      refine mw_callV2 dM_defining_126 cM_125 (Nat.le_of_ble_eq_true rfl) (Nat.le_of_ble_eq_true rfl) rfl ?_
      refine mo_alike (by omega) (by omega) (hu0 _ hp9.1 hp9.2) hu8 hgb (fun ha => ?_) (fun ha => ?_)
      · refine mw_istore dM_defining_129 (by decide) rfl ?_
        refine mw_iinc dM_defining_131 rfl (by decide) rfl ?_
        refine mw_goto (tgt := 93) dM_defining_134 (by decide) ?_
        refine ih (by omega) (by omega) _ ?_
        rcases hm with ⟨g1, g2, g3⟩ | ⟨g1, g2⟩
        · first
            | exact Or.inl ⟨rfl, g2, fun j q1 q2 => by
                by_cases e : j = i
                · subst e; exact ha
                · exact g3 j q1 (by omega)⟩
            | exact Or.inr ⟨rfl, fun z => ha (z.2 i h0 (by omega))⟩
        · omega
      · refine mw_istore dM_defining_129 (by decide) rfl ?_
        refine mw_iinc dM_defining_131 rfl (by decide) rfl ?_
        refine mw_goto (tgt := 93) dM_defining_134 (by decide) ?_
        refine ih (by omega) (by omega) _ ?_
        rcases hm with ⟨g1, g2, g3⟩ | ⟨g1, g2⟩
        · first
            | exact Or.inl ⟨rfl, g2, fun j q1 q2 => by
                by_cases e : j = i
                · subst e; exact ha
                · exact g3 j q1 (by omega)⟩
            | exact Or.inr ⟨rfl, fun z => ha (z.2 i h0 (by omega))⟩
        · omega
theorem mo_defining_c {c w p n f l : Int} (hn : 1 ≤ n ∧ n ≤ 4) (hf : 0 ≤ f ∧ f ≤ 92) (hpv : ∀ i, 0 ≤ i → i < n → 0 ≤ s.2.1 15 (f + i) ∧ s.2.1 15 (f + i) ≤ 9) (hl : 1 ≤ l ∧ l ≤ 40) {x8 : Option Value} (hq : Q (.inl (some (.int (iI l)))) (mo_cpy s f l n.toNat)) : ∀ i : Int, i ≤ n → 0 ≤ i → mw G b ad mM_defining (d + 1) Q 171 [some (.ref b), some (.int (iI c)), some (.int (iI w)), some (.int (iI p)), some (.int (iI n)), some (.int (iI f)), some (.int (iI l)), some (.int (iI i)), x8] [] (mo_cpy s f l i.toNat) kc ks := by
  refine il_up n (fun i hi ih h0 => ?_)
  refine mw_iload dM_defining_171 rfl ?_
  refine mw_iload dM_defining_173 rfl ?_
  refine mw_icmp_ge (tgt := 208) dM_defining_175 (by decide) (by first | omega | (simp only [mo_uz_1, mo_uz_2, mo_uf_1, mo_uf_2, mo_uf_22, mo_ug_1, mo_ug_2, mo_ug_22, mo_len, Nat.reduceEqDiff, false_and, true_and, and_true, and_false, if_false, if_true, reduceIte, ite_true, ite_false, ne_eq, not_true_eq_false, not_false_eq_true] at *; omega)) (by first | omega | (simp only [mo_uz_1, mo_uz_2, mo_uf_1, mo_uf_2, mo_uf_22, mo_ug_1, mo_ug_2, mo_ug_22, mo_len, Nat.reduceEqDiff, false_and, true_and, and_true, and_false, if_false, if_true, reduceIte, ite_true, ite_false, ne_eq, not_true_eq_false, not_false_eq_true] at *; omega)) (fun hb175 => ?_) (fun hb175 => ?_)
  · refine mw_iload dM_defining_208 rfl ?_
    refine mw_iret dM_defining_210 rfl ?_
    have e9 : i = n := by omega
    rw [e9]
    exact hq
  · have hp9 := hpv i h0 (by omega)
    have e15 : (mo_cpy s f l i.toNat).2.1 15 (f + i) = s.2.1 15 (f + i) := by rw [mo_cpy_o s (by decide)]
    refine mw_aload_n dM_defining_178 rfl ?_
    refine mw_aload_n dM_defining_179 rfl ?_
    refine mw_get dM_defining_180 fM_55 rfl ?_
    refine mw_iload dM_defining_183 rfl ?_
    refine mw_iload dM_defining_185 rfl ?_
    refine mw_iadd dM_defining_187 ?_
    refine mw_iald dM_defining_188 rfl rfl (by first | omega | (simp only [mo_uz_1, mo_uz_2, mo_uf_1, mo_uf_2, mo_uf_22, mo_ug_1, mo_ug_2, mo_ug_22, mo_len, Nat.reduceEqDiff, false_and, true_and, and_true, and_false, if_false, if_true, reduceIte, ite_true, ite_false, ne_eq, not_true_eq_false, not_false_eq_true] at *; omega)) (by first | omega | (simp only [mo_uz_1, mo_uz_2, mo_uf_1, mo_uf_2, mo_uf_22, mo_ug_1, mo_ug_2, mo_ug_22, mo_len, Nat.reduceEqDiff, false_and, true_and, and_true, and_false, if_false, if_true, reduceIte, ite_true, ite_false, ne_eq, not_true_eq_false, not_false_eq_true] at *; omega)) (fun hv188 => ?_)
    refine mw_bipush dM_defining_189 (by decide +kernel) ?_
    refine mw_iconst dM_defining_191 ?_
    refine mw_iload dM_defining_192 rfl ?_
    refine mw_imul dM_defining_194 ?_
    refine mw_iadd dM_defining_195 ?_
    refine mw_iload dM_defining_196 rfl ?_
    refine mw_iadd dM_defining_198 ?_
    refine mw_callV2 dM_defining_199 cM_132 (Nat.le_of_ble_eq_true rfl) (Nat.le_of_ble_eq_true rfl) rfl ?_
    refine mo_copySheet (by rw [e15]; exact hp9) (by omega) ?_
    rw [e15, ← mo_cpy_s s f l h0]
    refine mw_iinc dM_defining_202 rfl (by decide) rfl ?_
    refine mw_goto (tgt := 171) dM_defining_205 (by decide) ?_
    exact ih (by omega) (by omega)
theorem mo_defining_e {c w p n f l m i : Int} (hl : 1 ≤ l ∧ l ≤ 40) (hmb : m = 0 ∨ m = 1) (h1 : m = 1 → Q (.inl (some (.int (iI l)))) s) (h0 : m = 0 → mw G b ad mM_defining d Q 32 [some (.ref b), some (.int (iI c)), some (.int (iI w)), some (.int (iI p)), some (.int (iI n)), some (.int (iI f)), some (.int (iI (l + 1))), some (.int (iI m)), some (.int (iI i))] [] s kc ks) : mw G b ad mM_defining d Q 137 [some (.ref b), some (.int (iI c)), some (.int (iI w)), some (.int (iI p)), some (.int (iI n)), some (.int (iI f)), some (.int (iI l)), some (.int (iI m)), some (.int (iI i))] [] s kc ks := by
  refine mw_iload dM_defining_137 rfl ?_
  refine mw_if_eq (tgt := 145) dM_defining_139 (by decide) (by first | omega | (simp only [mo_uz_1, mo_uz_2, mo_uf_1, mo_uf_2, mo_uf_22, mo_ug_1, mo_ug_2, mo_ug_22, mo_len, Nat.reduceEqDiff, false_and, true_and, and_true, and_false, if_false, if_true, reduceIte, ite_true, ite_false, ne_eq, not_true_eq_false, not_false_eq_true] at *; omega)) (fun hb139 => ?_) (fun hb139 => ?_)
  · refine mw_iinc dM_defining_145 rfl (by decide) rfl ?_
    refine mw_goto (tgt := 32) dM_defining_148 (by decide) ?_
    exact h0 (by omega)
  · refine mw_iload dM_defining_142 rfl ?_
    refine mw_iret dM_defining_144 rfl ?_
    exact h1 (by omega)
theorem mo_defining_l {c w p n f : Int} (hp : iB p) (hn : 1 ≤ n ∧ n ≤ 4) (hf : 0 ≤ f ∧ f ≤ 92) (hpv : ∀ i, 0 ≤ i → i < n → 0 ≤ s.2.1 15 (f + i) ∧ s.2.1 15 (f + i) ≤ 9) (hu0 : ∀ a, 0 ≤ a → a ≤ 9 → mo_uq s a) (hul : ∀ l i, 1 ≤ l → l ≤ 40 → ¬ s.2.1 5 l = 0 → s.2.1 6 l = 1 → 0 ≤ i → i < s.2.1 8 l → mo_uq s (10 + 4 * l + i)) (hgb : ∀ k i, iB (s.2.1 k i)) (hfree : ∃ j, 1 ≤ j ∧ j ≤ 40 ∧ s.2.1 5 j = 0) (hold : ∀ l, 1 ≤ l → l ≤ 40 → (∀ j, 1 ≤ j → j < l → ¬ mo_dm s f n p j) → mo_dm s f n p l → Q (.inl (some (.int (iI l)))) s) (hnew : (∀ j, 1 ≤ j → j ≤ 40 → ¬ mo_dm s f n p j) → ∀ l, 1 ≤ l → l ≤ 40 → (∀ j, 1 ≤ j → j < l → s.2.1 5 j ≠ 0) → s.2.1 5 l = 0 → Q (.inl (some (.int (iI l)))) (mo_newd s f n p l)) : ∀ l : Int, l ≤ 41 → 1 ≤ l → ∀ x7 x8, (∀ j, 1 ≤ j → j < l → ¬ mo_dm s f n p j) → mw G b ad mM_defining (d + 1 + 1) Q 32 [some (.ref b), some (.int (iI c)), some (.int (iI w)), some (.int (iI p)), some (.int (iI n)), some (.int (iI f)), some (.int (iI l)), x7, x8] [] s kc ks := by
  refine il_up 41 (fun l hl ih h0 x7 x8 hj => ?_)
  refine mw_iload dM_defining_32 rfl ?_
  refine mw_bipush dM_defining_34 (by decide +kernel) ?_
  refine mw_icmp_ge (tgt := 151) dM_defining_36 (by decide) (by first | omega | (simp only [mo_uz_1, mo_uz_2, mo_uf_1, mo_uf_2, mo_uf_22, mo_ug_1, mo_ug_2, mo_ug_22, mo_len, Nat.reduceEqDiff, false_and, true_and, and_true, and_false, if_false, if_true, reduceIte, ite_true, ite_false, ne_eq, not_true_eq_false, not_false_eq_true] at *; omega)) (by first | omega | (simp only [mo_uz_1, mo_uz_2, mo_uf_1, mo_uf_2, mo_uf_22, mo_ug_1, mo_ug_2, mo_ug_22, mo_len, Nat.reduceEqDiff, false_and, true_and, and_true, and_false, if_false, if_true, reduceIte, ite_true, ite_false, ne_eq, not_true_eq_false, not_false_eq_true] at *; omega)) (fun hb36 => ?_) (fun hb36 => ?_)
  · refine mw_aload_n dM_defining_151 rfl ?_
    refine mw_iconst dM_defining_152 ?_
    refine mw_iload_n dM_defining_153 rfl ?_
    refine mw_callV2 dM_defining_154 cM_129 (Nat.le_of_ble_eq_true rfl) (Nat.le_of_ble_eq_true rfl) rfl ?_
    refine mo_begin (by decide) hp hfree (fun l hl1 hl2 hl3 hl4 => ?_)
    refine mw_istore dM_defining_157 (by decide) rfl ?_
    refine mw_aload_n dM_defining_159 rfl ?_
    refine mw_get dM_defining_160 fM_32 rfl ?_
    refine mw_iload dM_defining_163 rfl ?_
    refine mw_iload dM_defining_165 rfl ?_
    refine mw_iast dM_defining_167 rfl rfl (by first | omega | (simp only [mo_uz_1, mo_uz_2, mo_uf_1, mo_uf_2, mo_uf_22, mo_ug_1, mo_ug_2, mo_ug_22, mo_len, Nat.reduceEqDiff, false_and, true_and, and_true, and_false, if_false, if_true, reduceIte, ite_true, ite_false, ne_eq, not_true_eq_false, not_false_eq_true] at *; omega)) (by first | omega | (simp only [mo_uz_1, mo_uz_2, mo_uf_1, mo_uf_2, mo_uf_22, mo_ug_1, mo_ug_2, mo_ug_22, mo_len, Nat.reduceEqDiff, false_and, true_and, and_true, and_false, if_false, if_true, reduceIte, ite_true, ite_false, ne_eq, not_true_eq_false, not_false_eq_true] at *; omega)) (by first | omega | (simp only [mo_uz_1, mo_uz_2, mo_uf_1, mo_uf_2, mo_uf_22, mo_ug_1, mo_ug_2, mo_ug_22, mo_len, Nat.reduceEqDiff, false_and, true_and, and_true, and_false, if_false, if_true, reduceIte, ite_true, ite_false, ne_eq, not_true_eq_false, not_false_eq_true] at *; omega)) ?_
    refine mw_iconst dM_defining_168 ?_
    refine mw_istore dM_defining_169 (by decide) rfl ?_
    have hq9 := hnew (fun j q1 q2 => hj j q1 (by omega)) _ hl1 hl2 hl3 hl4
    exact mo_defining_c (s := mo_uf (mo_uf (mo_uf (mo_uf (mo_uf s 5 l 1) 6 l 1) 7 l p) 8 l 0) 8 l n) hn hf hpv ⟨hl1, hl2⟩ hq9 0 (by omega) (by decide)
  · refine mw_aload_n dM_defining_39 rfl ?_
    refine mw_get dM_defining_40 fM_22 rfl ?_
    refine mw_iload dM_defining_43 rfl ?_
    refine mw_zald dM_defining_45 rfl rfl (by first | omega | (simp only [mo_uz_1, mo_uz_2, mo_uf_1, mo_uf_2, mo_uf_22, mo_ug_1, mo_ug_2, mo_ug_22, mo_len, Nat.reduceEqDiff, false_and, true_and, and_true, and_false, if_false, if_true, reduceIte, ite_true, ite_false, ne_eq, not_true_eq_false, not_false_eq_true] at *; omega)) (by first | omega | (simp only [mo_uz_1, mo_uz_2, mo_uf_1, mo_uf_2, mo_uf_22, mo_ug_1, mo_ug_2, mo_ug_22, mo_len, Nat.reduceEqDiff, false_and, true_and, and_true, and_false, if_false, if_true, reduceIte, ite_true, ite_false, ne_eq, not_true_eq_false, not_false_eq_true] at *; omega)) (fun hv45 => ?_)
    refine mw_if_eq (tgt := 87) dM_defining_46 (by decide) (by first | omega | (simp only [mo_uz_1, mo_uz_2, mo_uf_1, mo_uf_2, mo_uf_22, mo_ug_1, mo_ug_2, mo_ug_22, mo_len, Nat.reduceEqDiff, false_and, true_and, and_true, and_false, if_false, if_true, reduceIte, ite_true, ite_false, ne_eq, not_true_eq_false, not_false_eq_true] at *; omega)) (fun hb46 => ?_) (fun hb46 => ?_)
    · refine mw_iconst dM_defining_87 ?_
      refine mw_istore dM_defining_88 (by decide) rfl ?_
      refine mw_iconst dM_defining_90 ?_
      refine mw_istore dM_defining_91 (by decide) rfl ?_
      refine mo_defining_i hp hn hf hpv hu0 hul hgb (by omega) (fun m i hm => ?_) 0 (by omega) (by decide) _ ?_
      · refine mo_defining_e (by omega) (by rcases hm with hm | hm <;> omega) (fun e => ?_) (fun e => ?_)
        · rcases hm with ⟨_, g2, g3⟩ | ⟨g1, _⟩
          · exact hold l h0 (by omega) hj ⟨g2, g3⟩
          · omega
        · rcases hm with ⟨g1, _⟩ | ⟨_, g2⟩
          · omega
          · refine ih (by omega) (by omega) _ _ (fun j q1 q2 => ?_)
            by_cases e2 : j = l
            · subst e2; exact g2
            · exact hj j q1 (by omega)
      · first
          | exact Or.inl ⟨rfl, ⟨by omega, by omega, by omega, by omega⟩, fun j q1 q2 => absurd q2 (by omega)⟩
          | exact Or.inr ⟨rfl, fun z => by obtain ⟨z, _⟩ := z; omega⟩
    · refine mw_aload_n dM_defining_49 rfl ?_
      refine mw_get dM_defining_50 fM_26 rfl ?_
      refine mw_iload dM_defining_53 rfl ?_
      refine mw_iald dM_defining_55 rfl rfl (by first | omega | (simp only [mo_uz_1, mo_uz_2, mo_uf_1, mo_uf_2, mo_uf_22, mo_ug_1, mo_ug_2, mo_ug_22, mo_len, Nat.reduceEqDiff, false_and, true_and, and_true, and_false, if_false, if_true, reduceIte, ite_true, ite_false, ne_eq, not_true_eq_false, not_false_eq_true] at *; omega)) (by first | omega | (simp only [mo_uz_1, mo_uz_2, mo_uf_1, mo_uf_2, mo_uf_22, mo_ug_1, mo_ug_2, mo_ug_22, mo_len, Nat.reduceEqDiff, false_and, true_and, and_true, and_false, if_false, if_true, reduceIte, ite_true, ite_false, ne_eq, not_true_eq_false, not_false_eq_true] at *; omega)) (fun hv55 => ?_)
      refine mw_iconst dM_defining_56 ?_
      refine mw_icmp_ne (tgt := 87) dM_defining_57 (by decide) (by first | omega | (simp only [mo_uz_1, mo_uz_2, mo_uf_1, mo_uf_2, mo_uf_22, mo_ug_1, mo_ug_2, mo_ug_22, mo_len, Nat.reduceEqDiff, false_and, true_and, and_true, and_false, if_false, if_true, reduceIte, ite_true, ite_false, ne_eq, not_true_eq_false, not_false_eq_true] at *; omega)) (by first | omega | (simp only [mo_uz_1, mo_uz_2, mo_uf_1, mo_uf_2, mo_uf_22, mo_ug_1, mo_ug_2, mo_ug_22, mo_len, Nat.reduceEqDiff, false_and, true_and, and_true, and_false, if_false, if_true, reduceIte, ite_true, ite_false, ne_eq, not_true_eq_false, not_false_eq_true] at *; omega)) (fun hb57 => ?_) (fun hb57 => ?_)
      · refine mw_iconst dM_defining_87 ?_
        refine mw_istore dM_defining_88 (by decide) rfl ?_
        refine mw_iconst dM_defining_90 ?_
        refine mw_istore dM_defining_91 (by decide) rfl ?_
        refine mo_defining_i hp hn hf hpv hu0 hul hgb (by omega) (fun m i hm => ?_) 0 (by omega) (by decide) _ ?_
        · refine mo_defining_e (by omega) (by rcases hm with hm | hm <;> omega) (fun e => ?_) (fun e => ?_)
          · rcases hm with ⟨_, g2, g3⟩ | ⟨g1, _⟩
            · exact hold l h0 (by omega) hj ⟨g2, g3⟩
            · omega
          · rcases hm with ⟨g1, _⟩ | ⟨_, g2⟩
            · omega
            · refine ih (by omega) (by omega) _ _ (fun j q1 q2 => ?_)
              by_cases e2 : j = l
              · subst e2; exact g2
              · exact hj j q1 (by omega)
        · first
            | exact Or.inl ⟨rfl, ⟨by omega, by omega, by omega, by omega⟩, fun j q1 q2 => absurd q2 (by omega)⟩
            | exact Or.inr ⟨rfl, fun z => by obtain ⟨z, _⟩ := z; omega⟩
      · refine mw_aload_n dM_defining_60 rfl ?_
        refine mw_get dM_defining_61 fM_29 rfl ?_
        refine mw_iload dM_defining_64 rfl ?_
        refine mw_iald dM_defining_66 rfl rfl (by first | omega | (simp only [mo_uz_1, mo_uz_2, mo_uf_1, mo_uf_2, mo_uf_22, mo_ug_1, mo_ug_2, mo_ug_22, mo_len, Nat.reduceEqDiff, false_and, true_and, and_true, and_false, if_false, if_true, reduceIte, ite_true, ite_false, ne_eq, not_true_eq_false, not_false_eq_true] at *; omega)) (by first | omega | (simp only [mo_uz_1, mo_uz_2, mo_uf_1, mo_uf_2, mo_uf_22, mo_ug_1, mo_ug_2, mo_ug_22, mo_len, Nat.reduceEqDiff, false_and, true_and, and_true, and_false, if_false, if_true, reduceIte, ite_true, ite_false, ne_eq, not_true_eq_false, not_false_eq_true] at *; omega)) (fun hv66 => ?_)
        refine mw_iload_n dM_defining_67 rfl ?_
        refine mw_icmp_ne (tgt := 87) dM_defining_68 (by decide) (by first | omega | (simp only [mo_uz_1, mo_uz_2, mo_uf_1, mo_uf_2, mo_uf_22, mo_ug_1, mo_ug_2, mo_ug_22, mo_len, Nat.reduceEqDiff, false_and, true_and, and_true, and_false, if_false, if_true, reduceIte, ite_true, ite_false, ne_eq, not_true_eq_false, not_false_eq_true] at *; omega)) (by first | omega | (simp only [mo_uz_1, mo_uz_2, mo_uf_1, mo_uf_2, mo_uf_22, mo_ug_1, mo_ug_2, mo_ug_22, mo_len, Nat.reduceEqDiff, false_and, true_and, and_true, and_false, if_false, if_true, reduceIte, ite_true, ite_false, ne_eq, not_true_eq_false, not_false_eq_true] at *; omega)) (fun hb68 => ?_) (fun hb68 => ?_)
        · refine mw_iconst dM_defining_87 ?_
          refine mw_istore dM_defining_88 (by decide) rfl ?_
          refine mw_iconst dM_defining_90 ?_
          refine mw_istore dM_defining_91 (by decide) rfl ?_
          refine mo_defining_i hp hn hf hpv hu0 hul hgb (by omega) (fun m i hm => ?_) 0 (by omega) (by decide) _ ?_
          · refine mo_defining_e (by omega) (by rcases hm with hm | hm <;> omega) (fun e => ?_) (fun e => ?_)
            · rcases hm with ⟨_, g2, g3⟩ | ⟨g1, _⟩
              · exact hold l h0 (by omega) hj ⟨g2, g3⟩
              · omega
            · rcases hm with ⟨g1, _⟩ | ⟨_, g2⟩
              · omega
              · refine ih (by omega) (by omega) _ _ (fun j q1 q2 => ?_)
                by_cases e2 : j = l
                · subst e2; exact g2
                · exact hj j q1 (by omega)
          · first
              | exact Or.inl ⟨rfl, ⟨by omega, by omega, by omega, by omega⟩, fun j q1 q2 => absurd q2 (by omega)⟩
              | exact Or.inr ⟨rfl, fun z => by obtain ⟨z, _⟩ := z; omega⟩
        · refine mw_aload_n dM_defining_71 rfl ?_
          refine mw_get dM_defining_72 fM_32 rfl ?_
          refine mw_iload dM_defining_75 rfl ?_
          refine mw_iald dM_defining_77 rfl rfl (by first | omega | (simp only [mo_uz_1, mo_uz_2, mo_uf_1, mo_uf_2, mo_uf_22, mo_ug_1, mo_ug_2, mo_ug_22, mo_len, Nat.reduceEqDiff, false_and, true_and, and_true, and_false, if_false, if_true, reduceIte, ite_true, ite_false, ne_eq, not_true_eq_false, not_false_eq_true] at *; omega)) (by first | omega | (simp only [mo_uz_1, mo_uz_2, mo_uf_1, mo_uf_2, mo_uf_22, mo_ug_1, mo_ug_2, mo_ug_22, mo_len, Nat.reduceEqDiff, false_and, true_and, and_true, and_false, if_false, if_true, reduceIte, ite_true, ite_false, ne_eq, not_true_eq_false, not_false_eq_true] at *; omega)) (fun hv77 => ?_)
          refine mw_iload dM_defining_78 rfl ?_
          refine mw_icmp_ne (tgt := 87) dM_defining_80 (by decide) (by first | omega | (simp only [mo_uz_1, mo_uz_2, mo_uf_1, mo_uf_2, mo_uf_22, mo_ug_1, mo_ug_2, mo_ug_22, mo_len, Nat.reduceEqDiff, false_and, true_and, and_true, and_false, if_false, if_true, reduceIte, ite_true, ite_false, ne_eq, not_true_eq_false, not_false_eq_true] at *; omega)) (by first | omega | (simp only [mo_uz_1, mo_uz_2, mo_uf_1, mo_uf_2, mo_uf_22, mo_ug_1, mo_ug_2, mo_ug_22, mo_len, Nat.reduceEqDiff, false_and, true_and, and_true, and_false, if_false, if_true, reduceIte, ite_true, ite_false, ne_eq, not_true_eq_false, not_false_eq_true] at *; omega)) (fun hb80 => ?_) (fun hb80 => ?_)
          · refine mw_iconst dM_defining_87 ?_
            refine mw_istore dM_defining_88 (by decide) rfl ?_
            refine mw_iconst dM_defining_90 ?_
            refine mw_istore dM_defining_91 (by decide) rfl ?_
            refine mo_defining_i hp hn hf hpv hu0 hul hgb (by omega) (fun m i hm => ?_) 0 (by omega) (by decide) _ ?_
            · refine mo_defining_e (by omega) (by rcases hm with hm | hm <;> omega) (fun e => ?_) (fun e => ?_)
              · rcases hm with ⟨_, g2, g3⟩ | ⟨g1, _⟩
                · exact hold l h0 (by omega) hj ⟨g2, g3⟩
                · omega
              · rcases hm with ⟨g1, _⟩ | ⟨_, g2⟩
                · omega
                · refine ih (by omega) (by omega) _ _ (fun j q1 q2 => ?_)
                  by_cases e2 : j = l
                  · subst e2; exact g2
                  · exact hj j q1 (by omega)
            · first
                | exact Or.inl ⟨rfl, ⟨by omega, by omega, by omega, by omega⟩, fun j q1 q2 => absurd q2 (by omega)⟩
                | exact Or.inr ⟨rfl, fun z => by obtain ⟨z, _⟩ := z; omega⟩
          · refine mw_iconst dM_defining_83 ?_
            refine mw_goto (tgt := 88) dM_defining_84 (by decide) ?_
            refine mw_istore dM_defining_88 (by decide) rfl ?_
            refine mw_iconst dM_defining_90 ?_
            refine mw_istore dM_defining_91 (by decide) rfl ?_
            refine mo_defining_i hp hn hf hpv hu0 hul hgb (by omega) (fun m i hm => ?_) 0 (by omega) (by decide) _ ?_
            · refine mo_defining_e (by omega) (by rcases hm with hm | hm <;> omega) (fun e => ?_) (fun e => ?_)
              · rcases hm with ⟨_, g2, g3⟩ | ⟨g1, _⟩
                · exact hold l h0 (by omega) hj ⟨g2, g3⟩
                · omega
              · rcases hm with ⟨g1, _⟩ | ⟨_, g2⟩
                · omega
                · refine ih (by omega) (by omega) _ _ (fun j q1 q2 => ?_)
                  by_cases e2 : j = l
                  · subst e2; exact g2
                  · exact hj j q1 (by omega)
            · first
                | exact Or.inl ⟨rfl, ⟨by omega, by omega, by omega, by omega⟩, fun j q1 q2 => absurd q2 (by omega)⟩
                | exact Or.inr ⟨rfl, fun z => by obtain ⟨z, _⟩ := z; omega⟩
theorem mo_defining {c w p : Int} (hc : 0 ≤ c ∧ c ≤ 11) (hw : w = 0 ∨ w = 1) (hp : iB p) (hn : 0 ≤ s.2.1 16 (2 * c + w) ∧ s.2.1 16 (2 * c + w) ≤ 4) (hpv : ∀ i, 0 ≤ i → i < s.2.1 16 (2 * c + w) → 0 ≤ s.2.1 15 (8 * c + 4 * w + i) ∧ s.2.1 15 (8 * c + 4 * w + i) ≤ 9) (hu0 : ∀ a, 0 ≤ a → a ≤ 9 → mo_uq s a) (hul : ∀ l i, 1 ≤ l → l ≤ 40 → ¬ s.2.1 5 l = 0 → s.2.1 6 l = 1 → 0 ≤ i → i < s.2.1 8 l → mo_uq s (10 + 4 * l + i)) (hfree : ∃ j, 1 ≤ j ∧ j ≤ 40 ∧ s.2.1 5 j = 0) (hno : s.2.1 16 (2 * c + w) = 0 → Q (.inl (some (.int (iI p)))) s) (hold : ¬ s.2.1 16 (2 * c + w) = 0 → ∀ l, 1 ≤ l → l ≤ 40 → (∀ j, 1 ≤ j → j < l → ¬ mo_dm s (8 * c + 4 * w) (s.2.1 16 (2 * c + w)) p j) → mo_dm s (8 * c + 4 * w) (s.2.1 16 (2 * c + w)) p l → Q (.inl (some (.int (iI l)))) s) (hnew : ¬ s.2.1 16 (2 * c + w) = 0 → (∀ j, 1 ≤ j → j ≤ 40 → ¬ mo_dm s (8 * c + 4 * w) (s.2.1 16 (2 * c + w)) p j) → ∀ l, 1 ≤ l → l ≤ 40 → (∀ j, 1 ≤ j → j < l → s.2.1 5 j ≠ 0) → s.2.1 5 l = 0 → Q (.inl (some (.int (iI l)))) (mo_newd s (8 * c + 4 * w) (s.2.1 16 (2 * c + w)) p l)) : mw G b ad mM_defining (d + 1 + 1) Q 0 [some (.ref b), some (.int (iI c)), some (.int (iI w)), some (.int (iI p)), none, none, none, none, none] [] s kc ks := by
  refine mw_gb (fun _ hgb => ?_)
  refine mw_aload_n dM_defining_0 rfl ?_
  refine mw_get dM_defining_1 fM_58 rfl ?_
  refine mw_iconst dM_defining_4 ?_
  refine mw_iload_n dM_defining_5 rfl ?_
  refine mw_imul dM_defining_6 ?_
  refine mw_iload_n dM_defining_7 rfl ?_
  refine mw_iadd dM_defining_8 ?_
  refine mw_iald dM_defining_9 rfl rfl (by first | omega | (simp only [mo_uz_1, mo_uz_2, mo_uf_1, mo_uf_2, mo_uf_22, mo_ug_1, mo_ug_2, mo_ug_22, mo_len, Nat.reduceEqDiff, false_and, true_and, and_true, and_false, if_false, if_true, reduceIte, ite_true, ite_false, ne_eq, not_true_eq_false, not_false_eq_true] at *; omega)) (by first | omega | (simp only [mo_uz_1, mo_uz_2, mo_uf_1, mo_uf_2, mo_uf_22, mo_ug_1, mo_ug_2, mo_ug_22, mo_len, Nat.reduceEqDiff, false_and, true_and, and_true, and_false, if_false, if_true, reduceIte, ite_true, ite_false, ne_eq, not_true_eq_false, not_false_eq_true] at *; omega)) (fun hv9 => ?_)
  refine mw_istore dM_defining_10 (by decide) rfl ?_
  refine mw_bipush dM_defining_12 (by decide +kernel) ?_
  refine mw_iload_n dM_defining_14 rfl ?_
  refine mw_imul dM_defining_15 ?_
  refine mw_iconst dM_defining_16 ?_
  refine mw_iload_n dM_defining_17 rfl ?_
  refine mw_imul dM_defining_18 ?_
  refine mw_iadd dM_defining_19 ?_
  refine mw_istore dM_defining_20 (by decide) rfl ?_
  refine mw_iload dM_defining_22 rfl ?_
  refine mw_if_ne (tgt := 29) dM_defining_24 (by decide) (by first | omega | (simp only [mo_uz_1, mo_uz_2, mo_uf_1, mo_uf_2, mo_uf_22, mo_ug_1, mo_ug_2, mo_ug_22, mo_len, Nat.reduceEqDiff, false_and, true_and, and_true, and_false, if_false, if_true, reduceIte, ite_true, ite_false, ne_eq, not_true_eq_false, not_false_eq_true] at *; omega)) (fun hb24 => ?_) (fun hb24 => ?_)
  · refine mw_iconst dM_defining_29 ?_
    refine mw_istore dM_defining_30 (by decide) rfl ?_
    exact mo_defining_l hp (by omega) (by omega) hpv hu0 hul hgb hfree (hold (by omega)) (hnew (by omega)) 1 (by decide) (by decide) _ _ (fun j q1 q2 => absurd q2 (by omega))
  · refine mw_iload_n dM_defining_27 rfl ?_
    refine mw_iret dM_defining_28 rfl ?_
    exact hno (by omega)

end MO11
