/-! the reference: alike, holders, look -/
section MO6
variable {G : aw_G} {b : Nat} {ad : Nat → Nat} {d : Nat} {Q : aw_O → mo_S → Prop} {s : mo_S} {kc ks : Nat}
/-- no name and no plugin stands twice on the sheet y; counts in range; descriptors' names are no negative numbers -/
def mo_uq (s : mo_S) (y : Int) : Prop := (0 ≤ s.2.1 1 y ∧ s.2.1 1 y ≤ 8) ∧ (0 ≤ s.2.1 3 y ∧ s.2.1 3 y ≤ 4) ∧ (∀ j k, 0 ≤ j → j < s.2.1 1 y → 0 ≤ k → k < s.2.1 1 y → s.2.1 2 (24 * y + 3 * j) = s.2.1 2 (24 * y + 3 * k) → j = k) ∧ (∀ j k, 0 ≤ j → j < s.2.1 3 y → 0 ≤ k → k < s.2.1 3 y → s.2.1 4 (8 * y + 2 * j) = s.2.1 4 (8 * y + 2 * k) → j = k) ∧ ∀ k, 0 ≤ k → k < s.2.1 3 y → 0 ≤ s.2.1 4 (8 * y + 2 * k + 1)
/-- the file k of x stands on y -/
def mo_a1 (s : mo_S) (x y k : Int) : Prop := ∃ j, 0 ≤ j ∧ j < s.2.1 1 y ∧ s.2.1 2 (24 * y + 3 * j) = s.2.1 2 (24 * x + 3 * k) ∧ s.2.1 2 (24 * y + 3 * j + 1) = s.2.1 2 (24 * x + 3 * k + 1) ∧ s.2.1 2 (24 * y + 3 * j + 2) = s.2.1 2 (24 * x + 3 * k + 2)
def mo_a2 (s : mo_S) (x y k : Int) : Prop := ∃ j, 0 ≤ j ∧ j < s.2.1 3 y ∧ s.2.1 4 (8 * y + 2 * j) = s.2.1 4 (8 * x + 2 * k) ∧ s.2.1 4 (8 * y + 2 * j + 1) = s.2.1 4 (8 * x + 2 * k + 1)
def mo_ac (s : mo_S) (x y : Int) : Prop := s.2.1 1 x = s.2.1 1 y ∧ s.2.1 3 x = s.2.1 3 y
def mo_alk (s : mo_S) (x y : Int) : Prop := (mo_ac s x y ∧ ∀ k, 0 ≤ k → k < s.2.1 1 x → mo_a1 s x y k) ∧ ∀ k, 0 ≤ k → k < s.2.1 3 x → mo_a2 s x y k
theorem mo_alike_l1 {x y : Int} (hx : 0 ≤ x ∧ x ≤ 173) (hy : 0 ≤ y ∧ y ≤ 173) (hux : mo_uq s x) (huy : mo_uq s y) (hk : ∀ m k x5 x6, (m = 1 ∧ mo_ac s x y ∧ ∀ j, 0 ≤ j → j < s.2.1 1 x → mo_a1 s x y j) ∨ (m = 0 ∧ ¬ (mo_ac s x y ∧ ∀ j, 0 ≤ j → j < s.2.1 1 x → mo_a1 s x y j)) → mw G b ad mM_alike (d + 1) Q 138 [some (.ref b), some (.int (iI x)), some (.int (iI y)), some (.int (iI m)), some (.int (iI k)), x5, x6] [] s kc ks) : ∀ k : Int, k ≤ s.2.1 1 x → 0 ≤ k → ∀ m x5 x6, (m = 1 ∧ mo_ac s x y ∧ ∀ j, 0 ≤ j → j < k → mo_a1 s x y j) ∨ (m = 0 ∧ ¬ (mo_ac s x y ∧ ∀ j, 0 ≤ j → j < s.2.1 1 x → mo_a1 s x y j)) → mw G b ad mM_alike (d + 1) Q 39 [some (.ref b), some (.int (iI x)), some (.int (iI y)), some (.int (iI m)), some (.int (iI k)), x5, x6] [] s kc ks := by
  refine il_up (s.2.1 1 x) (fun k hkk ih h0 m x5 x6 hm => ?_)
  have hmb : m = 0 ∨ m = 1 := by rcases hm with hm | hm <;> omega
  have hu1 := hux.1
  have hu2 := hux.2.1
  have hv1 := huy.1
  have hv2 := huy.2.1
  refine mw_iload dM_alike_39 rfl ?_
  refine mw_aload_n dM_alike_41 rfl ?_
  refine mw_get dM_alike_42 fM_7 rfl ?_
  refine mw_iload_n dM_alike_45 rfl ?_
  refine mw_iald dM_alike_46 rfl rfl (by first | omega | (simp only [mo_uz_1, mo_uz_2, mo_uf_1, mo_uf_2, mo_uf_22, mo_ug_1, mo_ug_2, mo_ug_22, mo_len, Nat.reduceEqDiff, false_and, true_and, and_true, and_false, if_false, if_true, reduceIte, ite_true, ite_false, ne_eq, not_true_eq_false, not_false_eq_true] at *; omega)) (by first | omega | (simp only [mo_uz_1, mo_uz_2, mo_uf_1, mo_uf_2, mo_uf_22, mo_ug_1, mo_ug_2, mo_ug_22, mo_len, Nat.reduceEqDiff, false_and, true_and, and_true, and_false, if_false, if_true, reduceIte, ite_true, ite_false, ne_eq, not_true_eq_false, not_false_eq_true] at *; omega)) (fun hv46 => ?_)
  refine mw_icmp_ge (tgt := 138) dM_alike_47 (by decide) (by first | omega | (simp only [mo_uz_1, mo_uz_2, mo_uf_1, mo_uf_2, mo_uf_22, mo_ug_1, mo_ug_2, mo_ug_22, mo_len, Nat.reduceEqDiff, false_and, true_and, and_true, and_false, if_false, if_true, reduceIte, ite_true, ite_false, ne_eq, not_true_eq_false, not_false_eq_true] at *; omega)) (by first | omega | (simp only [mo_uz_1, mo_uz_2, mo_uf_1, mo_uf_2, mo_uf_22, mo_ug_1, mo_ug_2, mo_ug_22, mo_len, Nat.reduceEqDiff, false_and, true_and, and_true, and_false, if_false, if_true, reduceIte, ite_true, ite_false, ne_eq, not_true_eq_false, not_false_eq_true] at *; omega)) (fun hb47 => ?_) (fun hb47 => ?_)
  · rcases hm with ⟨g1, g2, g3⟩ | ⟨g1, g2⟩
    · exact hk m k x5 x6 (Or.inl ⟨g1, g2, fun j q1 q2 => g3 j q1 (by omega)⟩)
    · exact hk m k x5 x6 (Or.inr ⟨g1, g2⟩)
  · refine mw_iload_n dM_alike_50 rfl ?_
    refine mw_if_eq (tgt := 138) dM_alike_51 (by decide) (by first | omega | (simp only [mo_uz_1, mo_uz_2, mo_uf_1, mo_uf_2, mo_uf_22, mo_ug_1, mo_ug_2, mo_ug_22, mo_len, Nat.reduceEqDiff, false_and, true_and, and_true, and_false, if_false, if_true, reduceIte, ite_true, ite_false, ne_eq, not_true_eq_false, not_false_eq_true] at *; omega)) (fun hb51 => ?_) (fun hb51 => ?_)
    · rcases hm with ⟨g1, g2, g3⟩ | ⟨g1, g2⟩
      · exact hk m k x5 x6 (Or.inl ⟨g1, g2, fun j q1 q2 => g3 j q1 (by omega)⟩)
      · exact hk m k x5 x6 (Or.inr ⟨g1, g2⟩)
    · refine mw_bipush dM_alike_54 (by decide +kernel) ?_
      refine mw_iload_n dM_alike_56 rfl ?_
      refine mw_imul dM_alike_57 ?_
      refine mw_iconst dM_alike_58 ?_
      refine mw_iload dM_alike_59 rfl ?_
      refine mw_imul dM_alike_61 ?_
      refine mw_iadd dM_alike_62 ?_
      refine mw_istore dM_alike_63 (by decide) rfl ?_
      refine mw_aload_n dM_alike_65 rfl ?_
      refine mw_iload_n dM_alike_66 rfl ?_
      refine mw_aload_n dM_alike_67 rfl ?_
      refine mw_get dM_alike_68 fM_13 rfl ?_
      refine mw_iload dM_alike_71 rfl ?_
      refine mw_iald dM_alike_73 rfl rfl (by first | omega | (simp only [mo_uz_1, mo_uz_2, mo_uf_1, mo_uf_2, mo_uf_22, mo_ug_1, mo_ug_2, mo_ug_22, mo_len, Nat.reduceEqDiff, false_and, true_and, and_true, and_false, if_false, if_true, reduceIte, ite_true, ite_false, ne_eq, not_true_eq_false, not_false_eq_true] at *; omega)) (by first | omega | (simp only [mo_uz_1, mo_uz_2, mo_uf_1, mo_uf_2, mo_uf_22, mo_ug_1, mo_ug_2, mo_ug_22, mo_len, Nat.reduceEqDiff, false_and, true_and, and_true, and_false, if_false, if_true, reduceIte, ite_true, ite_false, ne_eq, not_true_eq_false, not_false_eq_true] at *; omega)) (fun hv73 => ?_)
      refine mw_callV2 dM_alike_74 cM_114 (Nat.le_of_ble_eq_true rfl) (Nat.le_of_ble_eq_true rfl) rfl ?_
      refine mo_fileOf (by omega) (by omega) huy.1 (fun r hr => ?_)
      rcases hr with ⟨hr1, hr2⟩ | ⟨k1, hr1, hr2, hr3, hr4, hr5⟩
      · subst hr1
        refine mw_istore dM_alike_77 (by decide) rfl ?_
        refine mw_iload dM_alike_79 rfl ?_
        refine mw_if_lt (tgt := 130) dM_alike_81 (by decide) (by first | omega | (simp only [mo_uz_1, mo_uz_2, mo_uf_1, mo_uf_2, mo_uf_22, mo_ug_1, mo_ug_2, mo_ug_22, mo_len, Nat.reduceEqDiff, false_and, true_and, and_true, and_false, if_false, if_true, reduceIte, ite_true, ite_false, ne_eq, not_true_eq_false, not_false_eq_true] at *; omega)) (fun hb81 => ?_) (fun hb81 => ?_)
        · refine mw_iconst dM_alike_130 ?_
          refine mw_istore_n dM_alike_131 (by decide) rfl ?_
          refine mw_iinc dM_alike_132 rfl (by decide) rfl ?_
          refine mw_goto (tgt := 39) dM_alike_135 (by decide) ?_
          rcases hm with ⟨g1, g2, g3⟩ | ⟨g1, g2⟩
          · refine ih (by omega) (by omega) _ _ _ ?_
            first
              | (exfalso; omega)
              | exact Or.inl ⟨rfl, g2, fun j q1 q2 => by
                  by_cases e : j = k
                  · rw [e]; exact ⟨k1, hr2, hr3, hr4, by omega, by omega⟩
                  · exact g3 j q1 (by omega)⟩
              | exact Or.inr ⟨rfl, fun z => by
                  obtain ⟨j, q1, q2, q3, q4, q5⟩ := z.2 k h0 (by omega)
                  exact hr2 j q1 q2 q3⟩
              | exact Or.inr ⟨rfl, fun z => by
                  obtain ⟨j, q1, q2, q3, q4, q5⟩ := z.2 k h0 (by omega)
                  have e := huy.2.2.1 j k1 q1 q2 hr2 hr3 (q3.trans hr4.symm)
                  subst e
                  omega⟩
              | (exfalso; omega)
          · omega
        · refine mw_aload_n dM_alike_84 rfl ?_
          refine mw_get dM_alike_85 fM_13 rfl ?_
          refine mw_iload dM_alike_88 rfl ?_
          refine mw_iconst dM_alike_90 ?_
          refine mw_iadd dM_alike_91 ?_
          refine mw_iald dM_alike_92 rfl rfl (by first | omega | (simp only [mo_uz_1, mo_uz_2, mo_uf_1, mo_uf_2, mo_uf_22, mo_ug_1, mo_ug_2, mo_ug_22, mo_len, Nat.reduceEqDiff, false_and, true_and, and_true, and_false, if_false, if_true, reduceIte, ite_true, ite_false, ne_eq, not_true_eq_false, not_false_eq_true] at *; omega)) (by first | omega | (simp only [mo_uz_1, mo_uz_2, mo_uf_1, mo_uf_2, mo_uf_22, mo_ug_1, mo_ug_2, mo_ug_22, mo_len, Nat.reduceEqDiff, false_and, true_and, and_true, and_false, if_false, if_true, reduceIte, ite_true, ite_false, ne_eq, not_true_eq_false, not_false_eq_true] at *; omega)) (fun hv92 => ?_)
          refine mw_aload_n dM_alike_93 rfl ?_
          refine mw_get dM_alike_94 fM_13 rfl ?_
          refine mw_iload dM_alike_97 rfl ?_
          refine mw_iconst dM_alike_99 ?_
          refine mw_iadd dM_alike_100 ?_
          refine mw_iald dM_alike_101 rfl rfl (by first | omega | (simp only [mo_uz_1, mo_uz_2, mo_uf_1, mo_uf_2, mo_uf_22, mo_ug_1, mo_ug_2, mo_ug_22, mo_len, Nat.reduceEqDiff, false_and, true_and, and_true, and_false, if_false, if_true, reduceIte, ite_true, ite_false, ne_eq, not_true_eq_false, not_false_eq_true] at *; omega)) (by first | omega | (simp only [mo_uz_1, mo_uz_2, mo_uf_1, mo_uf_2, mo_uf_22, mo_ug_1, mo_ug_2, mo_ug_22, mo_len, Nat.reduceEqDiff, false_and, true_and, and_true, and_false, if_false, if_true, reduceIte, ite_true, ite_false, ne_eq, not_true_eq_false, not_false_eq_true] at *; omega)) (fun hv101 => ?_)
          refine mw_icmp_ne (tgt := 130) dM_alike_102 (by decide) (by first | omega | (simp only [mo_uz_1, mo_uz_2, mo_uf_1, mo_uf_2, mo_uf_22, mo_ug_1, mo_ug_2, mo_ug_22, mo_len, Nat.reduceEqDiff, false_and, true_and, and_true, and_false, if_false, if_true, reduceIte, ite_true, ite_false, ne_eq, not_true_eq_false, not_false_eq_true] at *; omega)) (by first | omega | (simp only [mo_uz_1, mo_uz_2, mo_uf_1, mo_uf_2, mo_uf_22, mo_ug_1, mo_ug_2, mo_ug_22, mo_len, Nat.reduceEqDiff, false_and, true_and, and_true, and_false, if_false, if_true, reduceIte, ite_true, ite_false, ne_eq, not_true_eq_false, not_false_eq_true] at *; omega)) (fun hb102 => ?_) (fun hb102 => ?_)
          · refine mw_iconst dM_alike_130 ?_
            refine mw_istore_n dM_alike_131 (by decide) rfl ?_
            refine mw_iinc dM_alike_132 rfl (by decide) rfl ?_
            refine mw_goto (tgt := 39) dM_alike_135 (by decide) ?_
            rcases hm with ⟨g1, g2, g3⟩ | ⟨g1, g2⟩
            · refine ih (by omega) (by omega) _ _ _ ?_
              first
                | (exfalso; omega)
                | exact Or.inl ⟨rfl, g2, fun j q1 q2 => by
                    by_cases e : j = k
                    · rw [e]; exact ⟨k1, hr2, hr3, hr4, by omega, by omega⟩
                    · exact g3 j q1 (by omega)⟩
                | exact Or.inr ⟨rfl, fun z => by
                    obtain ⟨j, q1, q2, q3, q4, q5⟩ := z.2 k h0 (by omega)
                    exact hr2 j q1 q2 q3⟩
                | exact Or.inr ⟨rfl, fun z => by
                    obtain ⟨j, q1, q2, q3, q4, q5⟩ := z.2 k h0 (by omega)
                    have e := huy.2.2.1 j k1 q1 q2 hr2 hr3 (q3.trans hr4.symm)
                    subst e
                    omega⟩
                | (exfalso; omega)
            · omega
          · refine mw_aload_n dM_alike_105 rfl ?_
            refine mw_get dM_alike_106 fM_13 rfl ?_
            refine mw_iload dM_alike_109 rfl ?_
            refine mw_iconst dM_alike_111 ?_
            refine mw_iadd dM_alike_112 ?_
            refine mw_iald dM_alike_113 rfl rfl (by first | omega | (simp only [mo_uz_1, mo_uz_2, mo_uf_1, mo_uf_2, mo_uf_22, mo_ug_1, mo_ug_2, mo_ug_22, mo_len, Nat.reduceEqDiff, false_and, true_and, and_true, and_false, if_false, if_true, reduceIte, ite_true, ite_false, ne_eq, not_true_eq_false, not_false_eq_true] at *; omega)) (by first | omega | (simp only [mo_uz_1, mo_uz_2, mo_uf_1, mo_uf_2, mo_uf_22, mo_ug_1, mo_ug_2, mo_ug_22, mo_len, Nat.reduceEqDiff, false_and, true_and, and_true, and_false, if_false, if_true, reduceIte, ite_true, ite_false, ne_eq, not_true_eq_false, not_false_eq_true] at *; omega)) (fun hv113 => ?_)
            refine mw_aload_n dM_alike_114 rfl ?_
            refine mw_get dM_alike_115 fM_13 rfl ?_
            refine mw_iload dM_alike_118 rfl ?_
            refine mw_iconst dM_alike_120 ?_
            refine mw_iadd dM_alike_121 ?_
            refine mw_iald dM_alike_122 rfl rfl (by first | omega | (simp only [mo_uz_1, mo_uz_2, mo_uf_1, mo_uf_2, mo_uf_22, mo_ug_1, mo_ug_2, mo_ug_22, mo_len, Nat.reduceEqDiff, false_and, true_and, and_true, and_false, if_false, if_true, reduceIte, ite_true, ite_false, ne_eq, not_true_eq_false, not_false_eq_true] at *; omega)) (by first | omega | (simp only [mo_uz_1, mo_uz_2, mo_uf_1, mo_uf_2, mo_uf_22, mo_ug_1, mo_ug_2, mo_ug_22, mo_len, Nat.reduceEqDiff, false_and, true_and, and_true, and_false, if_false, if_true, reduceIte, ite_true, ite_false, ne_eq, not_true_eq_false, not_false_eq_true] at *; omega)) (fun hv122 => ?_)
            refine mw_icmp_ne (tgt := 130) dM_alike_123 (by decide) (by first | omega | (simp only [mo_uz_1, mo_uz_2, mo_uf_1, mo_uf_2, mo_uf_22, mo_ug_1, mo_ug_2, mo_ug_22, mo_len, Nat.reduceEqDiff, false_and, true_and, and_true, and_false, if_false, if_true, reduceIte, ite_true, ite_false, ne_eq, not_true_eq_false, not_false_eq_true] at *; omega)) (by first | omega | (simp only [mo_uz_1, mo_uz_2, mo_uf_1, mo_uf_2, mo_uf_22, mo_ug_1, mo_ug_2, mo_ug_22, mo_len, Nat.reduceEqDiff, false_and, true_and, and_true, and_false, if_false, if_true, reduceIte, ite_true, ite_false, ne_eq, not_true_eq_false, not_false_eq_true] at *; omega)) (fun hb123 => ?_) (fun hb123 => ?_)
            · refine mw_iconst dM_alike_130 ?_
              refine mw_istore_n dM_alike_131 (by decide) rfl ?_
              refine mw_iinc dM_alike_132 rfl (by decide) rfl ?_
              refine mw_goto (tgt := 39) dM_alike_135 (by decide) ?_
              rcases hm with ⟨g1, g2, g3⟩ | ⟨g1, g2⟩
              · refine ih (by omega) (by omega) _ _ _ ?_
                first
                  | (exfalso; omega)
                  | exact Or.inl ⟨rfl, g2, fun j q1 q2 => by
                      by_cases e : j = k
                      · rw [e]; exact ⟨k1, hr2, hr3, hr4, by omega, by omega⟩
                      · exact g3 j q1 (by omega)⟩
                  | exact Or.inr ⟨rfl, fun z => by
                      obtain ⟨j, q1, q2, q3, q4, q5⟩ := z.2 k h0 (by omega)
                      exact hr2 j q1 q2 q3⟩
                  | exact Or.inr ⟨rfl, fun z => by
                      obtain ⟨j, q1, q2, q3, q4, q5⟩ := z.2 k h0 (by omega)
                      have e := huy.2.2.1 j k1 q1 q2 hr2 hr3 (q3.trans hr4.symm)
                      subst e
                      omega⟩
                  | (exfalso; omega)
              · omega
            · refine mw_iconst dM_alike_126 ?_
              refine mw_goto (tgt := 131) dM_alike_127 (by decide) ?_
              refine mw_istore_n dM_alike_131 (by decide) rfl ?_
              refine mw_iinc dM_alike_132 rfl (by decide) rfl ?_
              refine mw_goto (tgt := 39) dM_alike_135 (by decide) ?_
              rcases hm with ⟨g1, g2, g3⟩ | ⟨g1, g2⟩
              · refine ih (by omega) (by omega) _ _ _ ?_
                first
                  | (exfalso; omega)
                  | exact Or.inl ⟨rfl, g2, fun j q1 q2 => by
                      by_cases e : j = k
                      · rw [e]; exact ⟨k1, hr2, hr3, hr4, by omega, by omega⟩
                      · exact g3 j q1 (by omega)⟩
                  | exact Or.inr ⟨rfl, fun z => by
                      obtain ⟨j, q1, q2, q3, q4, q5⟩ := z.2 k h0 (by omega)
                      exact hr2 j q1 q2 q3⟩
                  | exact Or.inr ⟨rfl, fun z => by
                      obtain ⟨j, q1, q2, q3, q4, q5⟩ := z.2 k h0 (by omega)
                      have e := huy.2.2.1 j k1 q1 q2 hr2 hr3 (q3.trans hr4.symm)
                      subst e
                      omega⟩
                  | (exfalso; omega)
              · omega
      · have hr1 : r = 24 * y + 3 * k1 := hr1
        subst hr1
        refine mw_istore dM_alike_77 (by decide) rfl ?_
        refine mw_iload dM_alike_79 rfl ?_
        refine mw_if_lt (tgt := 130) dM_alike_81 (by decide) (by first | omega | (simp only [mo_uz_1, mo_uz_2, mo_uf_1, mo_uf_2, mo_uf_22, mo_ug_1, mo_ug_2, mo_ug_22, mo_len, Nat.reduceEqDiff, false_and, true_and, and_true, and_false, if_false, if_true, reduceIte, ite_true, ite_false, ne_eq, not_true_eq_false, not_false_eq_true] at *; omega)) (fun hb81 => ?_) (fun hb81 => ?_)
        · refine mw_iconst dM_alike_130 ?_
          refine mw_istore_n dM_alike_131 (by decide) rfl ?_
          refine mw_iinc dM_alike_132 rfl (by decide) rfl ?_
          refine mw_goto (tgt := 39) dM_alike_135 (by decide) ?_
          rcases hm with ⟨g1, g2, g3⟩ | ⟨g1, g2⟩
          · refine ih (by omega) (by omega) _ _ _ ?_
            first
              | (exfalso; omega)
              | exact Or.inl ⟨rfl, g2, fun j q1 q2 => by
                  by_cases e : j = k
                  · rw [e]; exact ⟨k1, hr2, hr3, hr4, by omega, by omega⟩
                  · exact g3 j q1 (by omega)⟩
              | exact Or.inr ⟨rfl, fun z => by
                  obtain ⟨j, q1, q2, q3, q4, q5⟩ := z.2 k h0 (by omega)
                  exact hr2 j q1 q2 q3⟩
              | exact Or.inr ⟨rfl, fun z => by
                  obtain ⟨j, q1, q2, q3, q4, q5⟩ := z.2 k h0 (by omega)
                  have e := huy.2.2.1 j k1 q1 q2 hr2 hr3 (q3.trans hr4.symm)
                  subst e
                  omega⟩
              | (exfalso; omega)
          · omega
        · refine mw_aload_n dM_alike_84 rfl ?_
          refine mw_get dM_alike_85 fM_13 rfl ?_
          refine mw_iload dM_alike_88 rfl ?_
          refine mw_iconst dM_alike_90 ?_
          refine mw_iadd dM_alike_91 ?_
          refine mw_iald dM_alike_92 rfl rfl (by first | omega | (simp only [mo_uz_1, mo_uz_2, mo_uf_1, mo_uf_2, mo_uf_22, mo_ug_1, mo_ug_2, mo_ug_22, mo_len, Nat.reduceEqDiff, false_and, true_and, and_true, and_false, if_false, if_true, reduceIte, ite_true, ite_false, ne_eq, not_true_eq_false, not_false_eq_true] at *; omega)) (by first | omega | (simp only [mo_uz_1, mo_uz_2, mo_uf_1, mo_uf_2, mo_uf_22, mo_ug_1, mo_ug_2, mo_ug_22, mo_len, Nat.reduceEqDiff, false_and, true_and, and_true, and_false, if_false, if_true, reduceIte, ite_true, ite_false, ne_eq, not_true_eq_false, not_false_eq_true] at *; omega)) (fun hv92 => ?_)
          refine mw_aload_n dM_alike_93 rfl ?_
          refine mw_get dM_alike_94 fM_13 rfl ?_
          refine mw_iload dM_alike_97 rfl ?_
          refine mw_iconst dM_alike_99 ?_
          refine mw_iadd dM_alike_100 ?_
          refine mw_iald dM_alike_101 rfl rfl (by first | omega | (simp only [mo_uz_1, mo_uz_2, mo_uf_1, mo_uf_2, mo_uf_22, mo_ug_1, mo_ug_2, mo_ug_22, mo_len, Nat.reduceEqDiff, false_and, true_and, and_true, and_false, if_false, if_true, reduceIte, ite_true, ite_false, ne_eq, not_true_eq_false, not_false_eq_true] at *; omega)) (by first | omega | (simp only [mo_uz_1, mo_uz_2, mo_uf_1, mo_uf_2, mo_uf_22, mo_ug_1, mo_ug_2, mo_ug_22, mo_len, Nat.reduceEqDiff, false_and, true_and, and_true, and_false, if_false, if_true, reduceIte, ite_true, ite_false, ne_eq, not_true_eq_false, not_false_eq_true] at *; omega)) (fun hv101 => ?_)
          refine mw_icmp_ne (tgt := 130) dM_alike_102 (by decide) (by first | omega | (simp only [mo_uz_1, mo_uz_2, mo_uf_1, mo_uf_2, mo_uf_22, mo_ug_1, mo_ug_2, mo_ug_22, mo_len, Nat.reduceEqDiff, false_and, true_and, and_true, and_false, if_false, if_true, reduceIte, ite_true, ite_false, ne_eq, not_true_eq_false, not_false_eq_true] at *; omega)) (by first | omega | (simp only [mo_uz_1, mo_uz_2, mo_uf_1, mo_uf_2, mo_uf_22, mo_ug_1, mo_ug_2, mo_ug_22, mo_len, Nat.reduceEqDiff, false_and, true_and, and_true, and_false, if_false, if_true, reduceIte, ite_true, ite_false, ne_eq, not_true_eq_false, not_false_eq_true] at *; omega)) (fun hb102 => ?_) (fun hb102 => ?_)
          · refine mw_iconst dM_alike_130 ?_
            refine mw_istore_n dM_alike_131 (by decide) rfl ?_
            refine mw_iinc dM_alike_132 rfl (by decide) rfl ?_
            refine mw_goto (tgt := 39) dM_alike_135 (by decide) ?_
            rcases hm with ⟨g1, g2, g3⟩ | ⟨g1, g2⟩
            · refine ih (by omega) (by omega) _ _ _ ?_
              first
                | (exfalso; omega)
                | exact Or.inl ⟨rfl, g2, fun j q1 q2 => by
                    by_cases e : j = k
                    · rw [e]; exact ⟨k1, hr2, hr3, hr4, by omega, by omega⟩
                    · exact g3 j q1 (by omega)⟩
                | exact Or.inr ⟨rfl, fun z => by
                    obtain ⟨j, q1, q2, q3, q4, q5⟩ := z.2 k h0 (by omega)
                    exact hr2 j q1 q2 q3⟩
                | exact Or.inr ⟨rfl, fun z => by
                    obtain ⟨j, q1, q2, q3, q4, q5⟩ := z.2 k h0 (by omega)
                    have e := huy.2.2.1 j k1 q1 q2 hr2 hr3 (q3.trans hr4.symm)
                    subst e
                    omega⟩
                | (exfalso; omega)
            · omega
          · refine mw_aload_n dM_alike_105 rfl ?_
            refine mw_get dM_alike_106 fM_13 rfl ?_
            refine mw_iload dM_alike_109 rfl ?_
            refine mw_iconst dM_alike_111 ?_
            refine mw_iadd dM_alike_112 ?_
            refine mw_iald dM_alike_113 rfl rfl (by first | omega | (simp only [mo_uz_1, mo_uz_2, mo_uf_1, mo_uf_2, mo_uf_22, mo_ug_1, mo_ug_2, mo_ug_22, mo_len, Nat.reduceEqDiff, false_and, true_and, and_true, and_false, if_false, if_true, reduceIte, ite_true, ite_false, ne_eq, not_true_eq_false, not_false_eq_true] at *; omega)) (by first | omega | (simp only [mo_uz_1, mo_uz_2, mo_uf_1, mo_uf_2, mo_uf_22, mo_ug_1, mo_ug_2, mo_ug_22, mo_len, Nat.reduceEqDiff, false_and, true_and, and_true, and_false, if_false, if_true, reduceIte, ite_true, ite_false, ne_eq, not_true_eq_false, not_false_eq_true] at *; omega)) (fun hv113 => ?_)
            refine mw_aload_n dM_alike_114 rfl ?_
            refine mw_get dM_alike_115 fM_13 rfl ?_
            refine mw_iload dM_alike_118 rfl ?_
            refine mw_iconst dM_alike_120 ?_
            refine mw_iadd dM_alike_121 ?_
            refine mw_iald dM_alike_122 rfl rfl (by first | omega | (simp only [mo_uz_1, mo_uz_2, mo_uf_1, mo_uf_2, mo_uf_22, mo_ug_1, mo_ug_2, mo_ug_22, mo_len, Nat.reduceEqDiff, false_and, true_and, and_true, and_false, if_false, if_true, reduceIte, ite_true, ite_false, ne_eq, not_true_eq_false, not_false_eq_true] at *; omega)) (by first | omega | (simp only [mo_uz_1, mo_uz_2, mo_uf_1, mo_uf_2, mo_uf_22, mo_ug_1, mo_ug_2, mo_ug_22, mo_len, Nat.reduceEqDiff, false_and, true_and, and_true, and_false, if_false, if_true, reduceIte, ite_true, ite_false, ne_eq, not_true_eq_false, not_false_eq_true] at *; omega)) (fun hv122 => ?_)
            refine mw_icmp_ne (tgt := 130) dM_alike_123 (by decide) (by first | omega | (simp only [mo_uz_1, mo_uz_2, mo_uf_1, mo_uf_2, mo_uf_22, mo_ug_1, mo_ug_2, mo_ug_22, mo_len, Nat.reduceEqDiff, false_and, true_and, and_true, and_false, if_false, if_true, reduceIte, ite_true, ite_false, ne_eq, not_true_eq_false, not_false_eq_true] at *; omega)) (by first | omega | (simp only [mo_uz_1, mo_uz_2, mo_uf_1, mo_uf_2, mo_uf_22, mo_ug_1, mo_ug_2, mo_ug_22, mo_len, Nat.reduceEqDiff, false_and, true_and, and_true, and_false, if_false, if_true, reduceIte, ite_true, ite_false, ne_eq, not_true_eq_false, not_false_eq_true] at *; omega)) (fun hb123 => ?_) (fun hb123 => ?_)
            · refine mw_iconst dM_alike_130 ?_
              refine mw_istore_n dM_alike_131 (by decide) rfl ?_
              refine mw_iinc dM_alike_132 rfl (by decide) rfl ?_
              refine mw_goto (tgt := 39) dM_alike_135 (by decide) ?_
              rcases hm with ⟨g1, g2, g3⟩ | ⟨g1, g2⟩
              · refine ih (by omega) (by omega) _ _ _ ?_
                first
                  | (exfalso; omega)
                  | exact Or.inl ⟨rfl, g2, fun j q1 q2 => by
                      by_cases e : j = k
                      · rw [e]; exact ⟨k1, hr2, hr3, hr4, by omega, by omega⟩
                      · exact g3 j q1 (by omega)⟩
                  | exact Or.inr ⟨rfl, fun z => by
                      obtain ⟨j, q1, q2, q3, q4, q5⟩ := z.2 k h0 (by omega)
                      exact hr2 j q1 q2 q3⟩
                  | exact Or.inr ⟨rfl, fun z => by
                      obtain ⟨j, q1, q2, q3, q4, q5⟩ := z.2 k h0 (by omega)
                      have e := huy.2.2.1 j k1 q1 q2 hr2 hr3 (q3.trans hr4.symm)
                      subst e
                      omega⟩
                  | (exfalso; omega)
              · omega
            · refine mw_iconst dM_alike_126 ?_
              refine mw_goto (tgt := 131) dM_alike_127 (by decide) ?_
              refine mw_istore_n dM_alike_131 (by decide) rfl ?_
              refine mw_iinc dM_alike_132 rfl (by decide) rfl ?_
              refine mw_goto (tgt := 39) dM_alike_135 (by decide) ?_
              rcases hm with ⟨g1, g2, g3⟩ | ⟨g1, g2⟩
              · refine ih (by omega) (by omega) _ _ _ ?_
                first
                  | (exfalso; omega)
                  | exact Or.inl ⟨rfl, g2, fun j q1 q2 => by
                      by_cases e : j = k
                      · rw [e]; exact ⟨k1, hr2, hr3, hr4, by omega, by omega⟩
                      · exact g3 j q1 (by omega)⟩
                  | exact Or.inr ⟨rfl, fun z => by
                      obtain ⟨j, q1, q2, q3, q4, q5⟩ := z.2 k h0 (by omega)
                      exact hr2 j q1 q2 q3⟩
                  | exact Or.inr ⟨rfl, fun z => by
                      obtain ⟨j, q1, q2, q3, q4, q5⟩ := z.2 k h0 (by omega)
                      have e := huy.2.2.1 j k1 q1 q2 hr2 hr3 (q3.trans hr4.symm)
                      subst e
                      omega⟩
                  | (exfalso; omega)
              · omega
theorem mo_alike_l2 {x y : Int} (hx : 0 ≤ x ∧ x ≤ 173) (hy : 0 ≤ y ∧ y ≤ 173) (hux : mo_uq s x) (huy : mo_uq s y) (hgb : ∀ k i, iB (s.2.1 k i)) (h1 : mo_alk s x y → Q (.inl (some (.int (iI 1)))) s) (h0' : ¬ mo_alk s x y → Q (.inl (some (.int (iI 0)))) s) : ∀ k : Int, k ≤ s.2.1 3 x → 0 ≤ k → ∀ m x5 x6, (m = 1 ∧ (mo_ac s x y ∧ ∀ j, 0 ≤ j → j < s.2.1 1 x → mo_a1 s x y j) ∧ ∀ j, 0 ≤ j → j < k → mo_a2 s x y j) ∨ (m = 0 ∧ ¬ mo_alk s x y) → mw G b ad mM_alike (d + 1) Q 141 [some (.ref b), some (.int (iI x)), some (.int (iI y)), some (.int (iI m)), some (.int (iI k)), x5, x6] [] s kc ks := by
  refine il_up (s.2.1 3 x) (fun k hkk ih h0 m x5 x6 hm => ?_)
  have hmb : m = 0 ∨ m = 1 := by rcases hm with hm | hm <;> omega
  have hu1 := hux.1
  have hu2 := hux.2.1
  have hv1 := huy.1
  have hv2 := huy.2.1
  refine mw_iload dM_alike_141 rfl ?_
  refine mw_aload_n dM_alike_143 rfl ?_
  refine mw_get dM_alike_144 fM_16 rfl ?_
  refine mw_iload_n dM_alike_147 rfl ?_
  refine mw_iald dM_alike_148 rfl rfl (by first | omega | (simp only [mo_uz_1, mo_uz_2, mo_uf_1, mo_uf_2, mo_uf_22, mo_ug_1, mo_ug_2, mo_ug_22, mo_len, Nat.reduceEqDiff, false_and, true_and, and_true, and_false, if_false, if_true, reduceIte, ite_true, ite_false, ne_eq, not_true_eq_false, not_false_eq_true] at *; omega)) (by first | omega | (simp only [mo_uz_1, mo_uz_2, mo_uf_1, mo_uf_2, mo_uf_22, mo_ug_1, mo_ug_2, mo_ug_22, mo_len, Nat.reduceEqDiff, false_and, true_and, and_true, and_false, if_false, if_true, reduceIte, ite_true, ite_false, ne_eq, not_true_eq_false, not_false_eq_true] at *; omega)) (fun hv148 => ?_)
  refine mw_icmp_ge (tgt := 206) dM_alike_149 (by decide) (by first | omega | (simp only [mo_uz_1, mo_uz_2, mo_uf_1, mo_uf_2, mo_uf_22, mo_ug_1, mo_ug_2, mo_ug_22, mo_len, Nat.reduceEqDiff, false_and, true_and, and_true, and_false, if_false, if_true, reduceIte, ite_true, ite_false, ne_eq, not_true_eq_false, not_false_eq_true] at *; omega)) (by first | omega | (simp only [mo_uz_1, mo_uz_2, mo_uf_1, mo_uf_2, mo_uf_22, mo_ug_1, mo_ug_2, mo_ug_22, mo_len, Nat.reduceEqDiff, false_and, true_and, and_true, and_false, if_false, if_true, reduceIte, ite_true, ite_false, ne_eq, not_true_eq_false, not_false_eq_true] at *; omega)) (fun hb149 => ?_) (fun hb149 => ?_)
  · refine mw_iload_n dM_alike_206 rfl ?_
    refine mw_zret dM_alike_207 rfl (by first | omega | (simp only [mo_uz_1, mo_uz_2, mo_uf_1, mo_uf_2, mo_uf_22, mo_ug_1, mo_ug_2, mo_ug_22, mo_len, Nat.reduceEqDiff, false_and, true_and, and_true, and_false, if_false, if_true, reduceIte, ite_true, ite_false, ne_eq, not_true_eq_false, not_false_eq_true] at *; omega)) ?_
    rcases hm with ⟨g1, g2, g3⟩ | ⟨g1, g2⟩
    · rw [g1]; exact h1 ⟨g2, fun j q1 q2 => g3 j q1 (by omega)⟩
    · rw [g1]; exact h0' g2
  · refine mw_iload_n dM_alike_152 rfl ?_
    refine mw_if_eq (tgt := 206) dM_alike_153 (by decide) (by first | omega | (simp only [mo_uz_1, mo_uz_2, mo_uf_1, mo_uf_2, mo_uf_22, mo_ug_1, mo_ug_2, mo_ug_22, mo_len, Nat.reduceEqDiff, false_and, true_and, and_true, and_false, if_false, if_true, reduceIte, ite_true, ite_false, ne_eq, not_true_eq_false, not_false_eq_true] at *; omega)) (fun hb153 => ?_) (fun hb153 => ?_)
    · refine mw_iload_n dM_alike_206 rfl ?_
      refine mw_zret dM_alike_207 rfl (by first | omega | (simp only [mo_uz_1, mo_uz_2, mo_uf_1, mo_uf_2, mo_uf_22, mo_ug_1, mo_ug_2, mo_ug_22, mo_len, Nat.reduceEqDiff, false_and, true_and, and_true, and_false, if_false, if_true, reduceIte, ite_true, ite_false, ne_eq, not_true_eq_false, not_false_eq_true] at *; omega)) ?_
      rcases hm with ⟨g1, g2, g3⟩ | ⟨g1, g2⟩
      · rw [g1]; exact h1 ⟨g2, fun j q1 q2 => g3 j q1 (by omega)⟩
      · rw [g1]; exact h0' g2
    · refine mw_aload_n dM_alike_156 rfl ?_
      refine mw_iload_n dM_alike_157 rfl ?_
      refine mw_aload_n dM_alike_158 rfl ?_
      refine mw_get dM_alike_159 fM_19 rfl ?_
      refine mw_bipush dM_alike_162 (by decide +kernel) ?_
      refine mw_iload_n dM_alike_164 rfl ?_
      refine mw_imul dM_alike_165 ?_
      refine mw_iconst dM_alike_166 ?_
      refine mw_iload dM_alike_167 rfl ?_
      refine mw_imul dM_alike_169 ?_
      refine mw_iadd dM_alike_170 ?_
      refine mw_iald dM_alike_171 rfl rfl (by first | omega | (simp only [mo_uz_1, mo_uz_2, mo_uf_1, mo_uf_2, mo_uf_22, mo_ug_1, mo_ug_2, mo_ug_22, mo_len, Nat.reduceEqDiff, false_and, true_and, and_true, and_false, if_false, if_true, reduceIte, ite_true, ite_false, ne_eq, not_true_eq_false, not_false_eq_true] at *; omega)) (by first | omega | (simp only [mo_uz_1, mo_uz_2, mo_uf_1, mo_uf_2, mo_uf_22, mo_ug_1, mo_ug_2, mo_ug_22, mo_len, Nat.reduceEqDiff, false_and, true_and, and_true, and_false, if_false, if_true, reduceIte, ite_true, ite_false, ne_eq, not_true_eq_false, not_false_eq_true] at *; omega)) (fun hv171 => ?_)
      refine mw_callV2 dM_alike_172 cM_118 (Nat.le_of_ble_eq_true rfl) (Nat.le_of_ble_eq_true rfl) rfl ?_
      refine mo_described (by omega) (by omega) huy.2.1 (fun r hr => ?_)
      have hnn := hux.2.2.2.2 k h0 (by omega)
      have hrb : iB r := by
        rcases hr with ⟨hr1, hr2⟩ | ⟨k1, hr1, hr2, hr3, hr4, hr5⟩
        · omega
        · have hr1 : r = s.2.1 4 (8 * y + 2 * k1 + 1) := hr1
          exact hr1 ▸ hgb _ _
      refine mw_aload_n dM_alike_175 rfl ?_
      refine mw_get dM_alike_176 fM_19 rfl ?_
      refine mw_bipush dM_alike_179 (by decide +kernel) ?_
      refine mw_iload_n dM_alike_181 rfl ?_
      refine mw_imul dM_alike_182 ?_
      refine mw_iconst dM_alike_183 ?_
      refine mw_iload dM_alike_184 rfl ?_
      refine mw_imul dM_alike_186 ?_
      refine mw_iadd dM_alike_187 ?_
      refine mw_iconst dM_alike_188 ?_
      refine mw_iadd dM_alike_189 ?_
      refine mw_iald dM_alike_190 rfl rfl (by first | omega | (simp only [mo_uz_1, mo_uz_2, mo_uf_1, mo_uf_2, mo_uf_22, mo_ug_1, mo_ug_2, mo_ug_22, mo_len, Nat.reduceEqDiff, false_and, true_and, and_true, and_false, if_false, if_true, reduceIte, ite_true, ite_false, ne_eq, not_true_eq_false, not_false_eq_true] at *; omega)) (by first | omega | (simp only [mo_uz_1, mo_uz_2, mo_uf_1, mo_uf_2, mo_uf_22, mo_ug_1, mo_ug_2, mo_ug_22, mo_len, Nat.reduceEqDiff, false_and, true_and, and_true, and_false, if_false, if_true, reduceIte, ite_true, ite_false, ne_eq, not_true_eq_false, not_false_eq_true] at *; omega)) (fun hv190 => ?_)
      refine mw_icmp_ne (tgt := 198) dM_alike_191 (by decide) (by first | omega | (simp only [mo_uz_1, mo_uz_2, mo_uf_1, mo_uf_2, mo_uf_22, mo_ug_1, mo_ug_2, mo_ug_22, mo_len, Nat.reduceEqDiff, false_and, true_and, and_true, and_false, if_false, if_true, reduceIte, ite_true, ite_false, ne_eq, not_true_eq_false, not_false_eq_true] at *; omega)) (by first | omega | (simp only [mo_uz_1, mo_uz_2, mo_uf_1, mo_uf_2, mo_uf_22, mo_ug_1, mo_ug_2, mo_ug_22, mo_len, Nat.reduceEqDiff, false_and, true_and, and_true, and_false, if_false, if_true, reduceIte, ite_true, ite_false, ne_eq, not_true_eq_false, not_false_eq_true] at *; omega)) (fun hb191 => ?_) (fun hb191 => ?_)
      · refine mw_iconst dM_alike_198 ?_
        refine mw_istore_n dM_alike_199 (by decide) rfl ?_
        refine mw_iinc dM_alike_200 rfl (by decide) rfl ?_
        refine mw_goto (tgt := 141) dM_alike_203 (by decide) ?_
        rcases hm with ⟨g1, g2, g3⟩ | ⟨g1, g2⟩
        · refine ih (by omega) (by omega) _ _ _ ?_
          rcases hr with ⟨hr1, hr2⟩ | ⟨k1, hr1, hr2, hr3, hr4, hr5⟩
          · first
              | omega
              | exact Or.inr ⟨rfl, fun z => by
                  obtain ⟨j, q1, q2, q3, q4⟩ := z.2 k h0 (by omega)
                  exact hr2 j q1 q2 q3⟩
          · have hr1 : r = s.2.1 4 (8 * y + 2 * k1 + 1) := hr1
            first
              | exact Or.inl ⟨rfl, g2, fun j q1 q2 => by
                  by_cases e : j = k
                  · rw [e]; exact ⟨k1, hr2, hr3, hr4, by omega⟩
                  · exact g3 j q1 (by omega)⟩
              | exact Or.inr ⟨rfl, fun z => by
                  obtain ⟨j, q1, q2, q3, q4⟩ := z.2 k h0 (by omega)
                  have e := huy.2.2.2.1 j k1 q1 q2 hr2 hr3 (q3.trans hr4.symm)
                  subst e
                  omega⟩
        · omega
      · refine mw_iconst dM_alike_194 ?_
        refine mw_goto (tgt := 199) dM_alike_195 (by decide) ?_
        refine mw_istore_n dM_alike_199 (by decide) rfl ?_
        refine mw_iinc dM_alike_200 rfl (by decide) rfl ?_
        refine mw_goto (tgt := 141) dM_alike_203 (by decide) ?_
        rcases hm with ⟨g1, g2, g3⟩ | ⟨g1, g2⟩
        · refine ih (by omega) (by omega) _ _ _ ?_
          rcases hr with ⟨hr1, hr2⟩ | ⟨k1, hr1, hr2, hr3, hr4, hr5⟩
          · first
              | omega
              | exact Or.inr ⟨rfl, fun z => by
                  obtain ⟨j, q1, q2, q3, q4⟩ := z.2 k h0 (by omega)
                  exact hr2 j q1 q2 q3⟩
          · have hr1 : r = s.2.1 4 (8 * y + 2 * k1 + 1) := hr1
            first
              | exact Or.inl ⟨rfl, g2, fun j q1 q2 => by
                  by_cases e : j = k
                  · rw [e]; exact ⟨k1, hr2, hr3, hr4, by omega⟩
                  · exact g3 j q1 (by omega)⟩
              | exact Or.inr ⟨rfl, fun z => by
                  obtain ⟨j, q1, q2, q3, q4⟩ := z.2 k h0 (by omega)
                  have e := huy.2.2.2.1 j k1 q1 q2 hr2 hr3 (q3.trans hr4.symm)
                  subst e
                  omega⟩
        · omega
theorem mo_alike_m {x y m k : Int} {x5 x6 : Option Value} (hx : 0 ≤ x ∧ x ≤ 173) (hy : 0 ≤ y ∧ y ≤ 173) (hux : mo_uq s x) (huy : mo_uq s y) (hgb : ∀ k i, iB (s.2.1 k i)) (h1 : mo_alk s x y → Q (.inl (some (.int (iI 1)))) s) (h0' : ¬ mo_alk s x y → Q (.inl (some (.int (iI 0)))) s) (hm : (m = 1 ∧ mo_ac s x y ∧ ∀ j, 0 ≤ j → j < s.2.1 1 x → mo_a1 s x y j) ∨ (m = 0 ∧ ¬ (mo_ac s x y ∧ ∀ j, 0 ≤ j → j < s.2.1 1 x → mo_a1 s x y j))) : mw G b ad mM_alike (d + 1) Q 138 [some (.ref b), some (.int (iI x)), some (.int (iI y)), some (.int (iI m)), some (.int (iI k)), x5, x6] [] s kc ks := by
  refine mw_iconst dM_alike_138 ?_
  refine mw_istore dM_alike_139 (by decide) rfl ?_
  refine mo_alike_l2 hx hy hux huy hgb h1 h0' 0 hux.2.1.1 (by decide) m x5 x6 ?_
  rcases hm with ⟨g1, g2, g3⟩ | ⟨g1, g2⟩
  · exact Or.inl ⟨g1, ⟨g2, g3⟩, fun j q1 q2 => absurd q2 (by omega)⟩
  · exact Or.inr ⟨g1, fun z => g2 z.1⟩
theorem mo_alike {x y : Int} (hx : 0 ≤ x ∧ x ≤ 173) (hy : 0 ≤ y ∧ y ≤ 173) (hux : mo_uq s x) (huy : mo_uq s y) (hgb : ∀ k i, iB (s.2.1 k i)) (h1 : mo_alk s x y → Q (.inl (some (.int (iI 1)))) s) (h0' : ¬ mo_alk s x y → Q (.inl (some (.int (iI 0)))) s) : mw G b ad mM_alike (d + 1) Q 0 [some (.ref b), some (.int (iI x)), some (.int (iI y)), none, none, none, none] [] s kc ks := by
  refine mw_aload_n dM_alike_0 rfl ?_
  refine mw_get dM_alike_1 fM_7 rfl ?_
  refine mw_iload_n dM_alike_4 rfl ?_
  refine mw_iald dM_alike_5 rfl rfl (by first | omega | (simp only [mo_uz_1, mo_uz_2, mo_uf_1, mo_uf_2, mo_uf_22, mo_ug_1, mo_ug_2, mo_ug_22, mo_len, Nat.reduceEqDiff, false_and, true_and, and_true, and_false, if_false, if_true, reduceIte, ite_true, ite_false, ne_eq, not_true_eq_false, not_false_eq_true] at *; omega)) (by first | omega | (simp only [mo_uz_1, mo_uz_2, mo_uf_1, mo_uf_2, mo_uf_22, mo_ug_1, mo_ug_2, mo_ug_22, mo_len, Nat.reduceEqDiff, false_and, true_and, and_true, and_false, if_false, if_true, reduceIte, ite_true, ite_false, ne_eq, not_true_eq_false, not_false_eq_true] at *; omega)) (fun hv5 => ?_)
  refine mw_aload_n dM_alike_6 rfl ?_
  refine mw_get dM_alike_7 fM_7 rfl ?_
  refine mw_iload_n dM_alike_10 rfl ?_
  refine mw_iald dM_alike_11 rfl rfl (by first | omega | (simp only [mo_uz_1, mo_uz_2, mo_uf_1, mo_uf_2, mo_uf_22, mo_ug_1, mo_ug_2, mo_ug_22, mo_len, Nat.reduceEqDiff, false_and, true_and, and_true, and_false, if_false, if_true, reduceIte, ite_true, ite_false, ne_eq, not_true_eq_false, not_false_eq_true] at *; omega)) (by first | omega | (simp only [mo_uz_1, mo_uz_2, mo_uf_1, mo_uf_2, mo_uf_22, mo_ug_1, mo_ug_2, mo_ug_22, mo_len, Nat.reduceEqDiff, false_and, true_and, and_true, and_false, if_false, if_true, reduceIte, ite_true, ite_false, ne_eq, not_true_eq_false, not_false_eq_true] at *; omega)) (fun hv11 => ?_)
  refine mw_icmp_ne (tgt := 34) dM_alike_12 (by decide) (by first | omega | (simp only [mo_uz_1, mo_uz_2, mo_uf_1, mo_uf_2, mo_uf_22, mo_ug_1, mo_ug_2, mo_ug_22, mo_len, Nat.reduceEqDiff, false_and, true_and, and_true, and_false, if_false, if_true, reduceIte, ite_true, ite_false, ne_eq, not_true_eq_false, not_false_eq_true] at *; omega)) (by first | omega | (simp only [mo_uz_1, mo_uz_2, mo_uf_1, mo_uf_2, mo_uf_22, mo_ug_1, mo_ug_2, mo_ug_22, mo_len, Nat.reduceEqDiff, false_and, true_and, and_true, and_false, if_false, if_true, reduceIte, ite_true, ite_false, ne_eq, not_true_eq_false, not_false_eq_true] at *; omega)) (fun hb12 => ?_) (fun hb12 => ?_)
  · refine mw_iconst dM_alike_34 ?_
    refine mw_istore_n dM_alike_35 (by decide) rfl ?_
    refine mw_iconst dM_alike_36 ?_
    refine mw_istore dM_alike_37 (by decide) rfl ?_
    refine mo_alike_l1 hx hy hux huy (fun m k x5 x6 hm => mo_alike_m hx hy hux huy hgb h1 h0' hm) 0 hux.1.1 (by decide) _ _ _ ?_
    first
      | exact Or.inl ⟨rfl, ⟨by omega, by omega⟩, fun j q1 q2 => absurd q2 (by omega)⟩
      | exact Or.inr ⟨rfl, fun z => by have z1 := z.1.1; have z2 := z.1.2; omega⟩
  · refine mw_aload_n dM_alike_15 rfl ?_
    refine mw_get dM_alike_16 fM_16 rfl ?_
    refine mw_iload_n dM_alike_19 rfl ?_
    refine mw_iald dM_alike_20 rfl rfl (by first | omega | (simp only [mo_uz_1, mo_uz_2, mo_uf_1, mo_uf_2, mo_uf_22, mo_ug_1, mo_ug_2, mo_ug_22, mo_len, Nat.reduceEqDiff, false_and, true_and, and_true, and_false, if_false, if_true, reduceIte, ite_true, ite_false, ne_eq, not_true_eq_false, not_false_eq_true] at *; omega)) (by first | omega | (simp only [mo_uz_1, mo_uz_2, mo_uf_1, mo_uf_2, mo_uf_22, mo_ug_1, mo_ug_2, mo_ug_22, mo_len, Nat.reduceEqDiff, false_and, true_and, and_true, and_false, if_false, if_true, reduceIte, ite_true, ite_false, ne_eq, not_true_eq_false, not_false_eq_true] at *; omega)) (fun hv20 => ?_)
    refine mw_aload_n dM_alike_21 rfl ?_
    refine mw_get dM_alike_22 fM_16 rfl ?_
    refine mw_iload_n dM_alike_25 rfl ?_
    refine mw_iald dM_alike_26 rfl rfl (by first | omega | (simp only [mo_uz_1, mo_uz_2, mo_uf_1, mo_uf_2, mo_uf_22, mo_ug_1, mo_ug_2, mo_ug_22, mo_len, Nat.reduceEqDiff, false_and, true_and, and_true, and_false, if_false, if_true, reduceIte, ite_true, ite_false, ne_eq, not_true_eq_false, not_false_eq_true] at *; omega)) (by first | omega | (simp only [mo_uz_1, mo_uz_2, mo_uf_1, mo_uf_2, mo_uf_22, mo_ug_1, mo_ug_2, mo_ug_22, mo_len, Nat.reduceEqDiff, false_and, true_and, and_true, and_false, if_false, if_true, reduceIte, ite_true, ite_false, ne_eq, not_true_eq_false, not_false_eq_true] at *; omega)) (fun hv26 => ?_)
    refine mw_icmp_ne (tgt := 34) dM_alike_27 (by decide) (by first | omega | (simp only [mo_uz_1, mo_uz_2, mo_uf_1, mo_uf_2, mo_uf_22, mo_ug_1, mo_ug_2, mo_ug_22, mo_len, Nat.reduceEqDiff, false_and, true_and, and_true, and_false, if_false, if_true, reduceIte, ite_true, ite_false, ne_eq, not_true_eq_false, not_false_eq_true] at *; omega)) (by first | omega | (simp only [mo_uz_1, mo_uz_2, mo_uf_1, mo_uf_2, mo_uf_22, mo_ug_1, mo_ug_2, mo_ug_22, mo_len, Nat.reduceEqDiff, false_and, true_and, and_true, and_false, if_false, if_true, reduceIte, ite_true, ite_false, ne_eq, not_true_eq_false, not_false_eq_true] at *; omega)) (fun hb27 => ?_) (fun hb27 => ?_)
    · refine mw_iconst dM_alike_34 ?_
      refine mw_istore_n dM_alike_35 (by decide) rfl ?_
      refine mw_iconst dM_alike_36 ?_
      refine mw_istore dM_alike_37 (by decide) rfl ?_
      refine mo_alike_l1 hx hy hux huy (fun m k x5 x6 hm => mo_alike_m hx hy hux huy hgb h1 h0' hm) 0 hux.1.1 (by decide) _ _ _ ?_
      first
        | exact Or.inl ⟨rfl, ⟨by omega, by omega⟩, fun j q1 q2 => absurd q2 (by omega)⟩
        | exact Or.inr ⟨rfl, fun z => by have z1 := z.1.1; have z2 := z.1.2; omega⟩
    · refine mw_iconst dM_alike_30 ?_
      refine mw_goto (tgt := 35) dM_alike_31 (by decide) ?_
      refine mw_istore_n dM_alike_35 (by decide) rfl ?_
      refine mw_iconst dM_alike_36 ?_
      refine mw_istore dM_alike_37 (by decide) rfl ?_
      refine mo_alike_l1 hx hy hux huy (fun m k x5 x6 hm => mo_alike_m hx hy hux huy hgb h1 h0' hm) 0 hux.1.1 (by decide) _ _ _ ?_
      first
        | exact Or.inl ⟨rfl, ⟨by omega, by omega⟩, fun j q1 q2 => absurd q2 (by omega)⟩
        | exact Or.inr ⟨rfl, fun z => by have z1 := z.1.1; have z2 := z.1.2; omega⟩
theorem mw_gb {M : aw_M} {pc : Nat} {L : List (Option Value)} {st : List Value} (k : (∀ k, iB (s.1 k)) → (∀ k i, iB (s.2.1 k i)) → mw G b ad M d Q pc L st s kc ks) : mw G b ad M d Q pc L st s kc ks := fun J Q0 h hq => k h.2.2.2.1 h.2.2.2.2 J Q0 h hq
/-- who holds the loader l: the loaders 1 .. n whose parent it is -/
def mo_hk (s : mo_S) (l : Int) : Nat → Int
  | 0 => 0
  | n + 1 => mo_hk s l n + (if s.2.1 5 ((n : Int) + 1) ≠ 0 ∧ s.2.1 7 ((n : Int) + 1) = l then 1 else 0)
/-- how many of the first n loaders of the scope t are l -/
def mo_h3 (s : mo_S) (l t : Int) : Nat → Int
  | 0 => 0
  | n + 1 => mo_h3 s l t n + (if s.2.1 21 (3 * t + (n : Int)) = l then 1 else 0)
/-- the scopes 1 .. n -/
def mo_hs (s : mo_S) (l : Int) : Nat → Int
  | 0 => 0
  | n + 1 => mo_hs s l n + (if s.2.1 13 ((n : Int) + 1) = 1 then mo_h3 s l ((n : Int) + 1) 3 else 0)
def mo_hold (s : mo_S) (l : Int) : Int := (if l = 0 then 2 else 0) + mo_hk s l 40 + mo_hs s l (s.1 12 - 1).toNat
theorem mo_hk_b (s : mo_S) (l : Int) (n : Nat) : 0 ≤ mo_hk s l n ∧ mo_hk s l n ≤ n := by
  induction n with
  | zero => exact ⟨Int.le_refl _, Int.le_refl _⟩
  | succ n ih =>
    rw [mo_hk]
    split <;> constructor <;> omega
theorem mo_h3_b (s : mo_S) (l t : Int) (n : Nat) : 0 ≤ mo_h3 s l t n ∧ mo_h3 s l t n ≤ n := by
  induction n with
  | zero => exact ⟨Int.le_refl _, Int.le_refl _⟩
  | succ n ih =>
    rw [mo_h3]
    split <;> constructor <;> omega
theorem mo_hs_b (s : mo_S) (l : Int) (n : Nat) : 0 ≤ mo_hs s l n ∧ mo_hs s l n ≤ 3 * n := by
  induction n with
  | zero => exact ⟨Int.le_refl _, Int.le_refl _⟩
  | succ n ih =>
    rw [mo_hs]
    have := mo_h3_b s l ((n : Int) + 1) 3
    split <;> constructor <;> omega
theorem mo_hk_s (s : mo_S) (l : Int) {i : Int} (h : 1 ≤ i) : mo_hk s l i.toNat = mo_hk s l (i - 1).toNat + (if s.2.1 5 i ≠ 0 ∧ s.2.1 7 i = l then 1 else 0) := by
  have e : i.toNat = (i - 1).toNat + 1 := by omega
  have e2 : (((i - 1).toNat : Nat) : Int) + 1 = i := by omega
  rw [e, mo_hk, e2]
theorem mo_h3_s (s : mo_S) (l t : Int) {i : Int} (h : 0 ≤ i) : mo_h3 s l t (i + 1).toNat = mo_h3 s l t i.toNat + (if s.2.1 21 (3 * t + i) = l then 1 else 0) := by
  have e : (i + 1).toNat = i.toNat + 1 := by omega
  have e2 : ((i.toNat : Nat) : Int) = i := by omega
  rw [e, mo_h3, e2]
theorem mo_hs_s (s : mo_S) (l : Int) {i : Int} (h : 1 ≤ i) : mo_hs s l i.toNat = mo_hs s l (i - 1).toNat + (if s.2.1 13 i = 1 then mo_h3 s l i 3 else 0) := by
  have e : i.toNat = (i - 1).toNat + 1 := by omega
  have e2 : (((i - 1).toNat : Nat) : Int) + 1 = i := by omega
  rw [e, mo_hs, e2]
theorem mo_hold_l3 {l i N : Int} (hl : 0 ≤ l ∧ l ≤ 40) (h12 : 1 ≤ s.1 12 ∧ s.1 12 ≤ 12) (hi : 1 ≤ i ∧ i < s.1 12) (hN : 0 ≤ N ∧ N ≤ 1000) (hk : ∀ k : Int, mw G b ad mM_holders d Q 109 [some (.ref b), some (.int (iI l)), some (.int (iI (N + if s.2.1 13 i = 1 then mo_h3 s l i 3 else 0))), some (.int (iI i)), some (.int (iI k))] [] s kc ks) : ∀ k : Int, k ≤ 3 → 0 ≤ k → (s.2.1 13 i = 1 ∨ k = 0) → mw G b ad mM_holders d Q 64 [some (.ref b), some (.int (iI l)), some (.int (iI (N + mo_h3 s l i k.toNat))), some (.int (iI i)), some (.int (iI k))] [] s kc ks := by
  refine il_up 3 (fun k hkk ih h0 hst => ?_)
  refine mw_iload dM_holders_64 rfl ?_
  refine mw_iconst dM_holders_66 ?_
  have h3b := mo_h3_b s l i k.toNat
  refine mw_icmp_ge (tgt := 109) dM_holders_67 (by decide) (by first | omega | (simp only [mo_uz_1, mo_uz_2, mo_uf_1, mo_uf_2, mo_uf_22, mo_ug_1, mo_ug_2, mo_ug_22, mo_len, Nat.reduceEqDiff, false_and, true_and, and_true, and_false, if_false, if_true, reduceIte, ite_true, ite_false, ne_eq, not_true_eq_false, not_false_eq_true] at *; omega)) (by first | omega | (simp only [mo_uz_1, mo_uz_2, mo_uf_1, mo_uf_2, mo_uf_22, mo_ug_1, mo_ug_2, mo_ug_22, mo_len, Nat.reduceEqDiff, false_and, true_and, and_true, and_false, if_false, if_true, reduceIte, ite_true, ite_false, ne_eq, not_true_eq_false, not_false_eq_true] at *; omega)) (fun hb67 => ?_) (fun hb67 => ?_)
  · by_cases e1 : s.2.1 13 i = 1
    · have e9 : k = 3 := by omega
      subst e9
      rw [if_pos e1] at hk
      exact hk 3
    · have e9 : k = 0 := by
        rcases hst with h | h
        · exact absurd h e1
        · exact h
      subst e9
      rw [if_neg e1] at hk
      exact hk 0
  · refine mw_aload_n dM_holders_70 rfl ?_
    refine mw_get dM_holders_71 fM_49 rfl ?_
    refine mw_iload_n dM_holders_74 rfl ?_
    refine mw_iald dM_holders_75 rfl rfl (by first | omega | (simp only [mo_uz_1, mo_uz_2, mo_uf_1, mo_uf_2, mo_uf_22, mo_ug_1, mo_ug_2, mo_ug_22, mo_len, Nat.reduceEqDiff, false_and, true_and, and_true, and_false, if_false, if_true, reduceIte, ite_true, ite_false, ne_eq, not_true_eq_false, not_false_eq_true] at *; omega)) (by first | omega | (simp only [mo_uz_1, mo_uz_2, mo_uf_1, mo_uf_2, mo_uf_22, mo_ug_1, mo_ug_2, mo_ug_22, mo_len, Nat.reduceEqDiff, false_and, true_and, and_true, and_false, if_false, if_true, reduceIte, ite_true, ite_false, ne_eq, not_true_eq_false, not_false_eq_true] at *; omega)) (fun hv75 => ?_)
    refine mw_iconst dM_holders_76 ?_
    refine mw_icmp_ne (tgt := 109) dM_holders_77 (by decide) (by first | omega | (simp only [mo_uz_1, mo_uz_2, mo_uf_1, mo_uf_2, mo_uf_22, mo_ug_1, mo_ug_2, mo_ug_22, mo_len, Nat.reduceEqDiff, false_and, true_and, and_true, and_false, if_false, if_true, reduceIte, ite_true, ite_false, ne_eq, not_true_eq_false, not_false_eq_true] at *; omega)) (by first | omega | (simp only [mo_uz_1, mo_uz_2, mo_uf_1, mo_uf_2, mo_uf_22, mo_ug_1, mo_ug_2, mo_ug_22, mo_len, Nat.reduceEqDiff, false_and, true_and, and_true, and_false, if_false, if_true, reduceIte, ite_true, ite_false, ne_eq, not_true_eq_false, not_false_eq_true] at *; omega)) (fun hb77 => ?_) (fun hb77 => ?_)
    · by_cases e1 : s.2.1 13 i = 1
      · have e9 : k = 3 := by omega
        subst e9
        rw [if_pos e1] at hk
        exact hk 3
      · have e9 : k = 0 := by
          rcases hst with h | h
          · exact absurd h e1
          · exact h
        subst e9
        rw [if_neg e1] at hk
        exact hk 0
    · refine mw_aload_n dM_holders_80 rfl ?_
      refine mw_get dM_holders_81 fM_73 rfl ?_
      refine mw_iconst dM_holders_84 ?_
      refine mw_iload_n dM_holders_85 rfl ?_
      refine mw_imul dM_holders_86 ?_
      refine mw_iload dM_holders_87 rfl ?_
      refine mw_iadd dM_holders_89 ?_
      refine mw_iald dM_holders_90 rfl rfl (by first | omega | (simp only [mo_uz_1, mo_uz_2, mo_uf_1, mo_uf_2, mo_uf_22, mo_ug_1, mo_ug_2, mo_ug_22, mo_len, Nat.reduceEqDiff, false_and, true_and, and_true, and_false, if_false, if_true, reduceIte, ite_true, ite_false, ne_eq, not_true_eq_false, not_false_eq_true] at *; omega)) (by first | omega | (simp only [mo_uz_1, mo_uz_2, mo_uf_1, mo_uf_2, mo_uf_22, mo_ug_1, mo_ug_2, mo_ug_22, mo_len, Nat.reduceEqDiff, false_and, true_and, and_true, and_false, if_false, if_true, reduceIte, ite_true, ite_false, ne_eq, not_true_eq_false, not_false_eq_true] at *; omega)) (fun hv90 => ?_)
      refine mw_iload_n dM_holders_91 rfl ?_
      refine mw_icmp_ne (tgt := 101) dM_holders_92 (by decide) (by first | omega | (simp only [mo_uz_1, mo_uz_2, mo_uf_1, mo_uf_2, mo_uf_22, mo_ug_1, mo_ug_2, mo_ug_22, mo_len, Nat.reduceEqDiff, false_and, true_and, and_true, and_false, if_false, if_true, reduceIte, ite_true, ite_false, ne_eq, not_true_eq_false, not_false_eq_true] at *; omega)) (by first | omega | (simp only [mo_uz_1, mo_uz_2, mo_uf_1, mo_uf_2, mo_uf_22, mo_ug_1, mo_ug_2, mo_ug_22, mo_len, Nat.reduceEqDiff, false_and, true_and, and_true, and_false, if_false, if_true, reduceIte, ite_true, ite_false, ne_eq, not_true_eq_false, not_false_eq_true] at *; omega)) (fun hb92 => ?_) (fun hb92 => ?_)
      · refine mw_iload_n dM_holders_101 rfl ?_
        refine mw_istore_n dM_holders_102 (by decide) rfl ?_
        refine mw_iinc dM_holders_103 rfl (by decide) rfl ?_
        refine mw_goto (tgt := 64) dM_holders_106 (by decide) ?_
        have e1 := mo_h3_s s l i h0
        refine mw_lo ?_ (ih (by omega) (by omega) (Or.inl (by omega)))
        rw [e1]
        first | rw [if_pos (by omega), ← Int.add_assoc] | (rw [if_neg (by omega), Int.add_zero])
        rfl
      · refine mw_iload_n dM_holders_95 rfl ?_
        refine mw_iconst dM_holders_96 ?_
        refine mw_iadd dM_holders_97 ?_
        refine mw_goto (tgt := 102) dM_holders_98 (by decide) ?_
        refine mw_istore_n dM_holders_102 (by decide) rfl ?_
        refine mw_iinc dM_holders_103 rfl (by decide) rfl ?_
        refine mw_goto (tgt := 64) dM_holders_106 (by decide) ?_
        have e1 := mo_h3_s s l i h0
        refine mw_lo ?_ (ih (by omega) (by omega) (Or.inl (by omega)))
        rw [e1]
        first | rw [if_pos (by omega), ← Int.add_assoc] | (rw [if_neg (by omega), Int.add_zero])
        rfl
theorem mo_hold_l2 {l K : Int} (hl : 0 ≤ l ∧ l ≤ 40) (h12 : 1 ≤ s.1 12 ∧ s.1 12 ≤ 12) (hK : 0 ≤ K ∧ K ≤ 100) (hk : Q (.inl (some (.int (iI (K + mo_hs s l (s.1 12 - 1).toNat))))) s) : ∀ i : Int, i ≤ s.1 12 → 1 ≤ i → ∀ x4, mw G b ad mM_holders d Q 53 [some (.ref b), some (.int (iI l)), some (.int (iI (K + mo_hs s l (i - 1).toNat))), some (.int (iI i)), x4] [] s kc ks := by
  refine il_up (s.1 12) (fun i hi ih h0 x4 => ?_)
  refine mw_iload_n dM_holders_53 rfl ?_
  refine mw_aload_n dM_holders_54 rfl ?_
  refine mw_getI dM_holders_55 fM_45 rfl (fun hv55 => ?_)
  have hsb := mo_hs_b s l (i - 1).toNat
  refine mw_icmp_ge (tgt := 115) dM_holders_58 (by decide) (by first | omega | (simp only [mo_uz_1, mo_uz_2, mo_uf_1, mo_uf_2, mo_uf_22, mo_ug_1, mo_ug_2, mo_ug_22, mo_len, Nat.reduceEqDiff, false_and, true_and, and_true, and_false, if_false, if_true, reduceIte, ite_true, ite_false, ne_eq, not_true_eq_false, not_false_eq_true] at *; omega)) (by first | omega | (simp only [mo_uz_1, mo_uz_2, mo_uf_1, mo_uf_2, mo_uf_22, mo_ug_1, mo_ug_2, mo_ug_22, mo_len, Nat.reduceEqDiff, false_and, true_and, and_true, and_false, if_false, if_true, reduceIte, ite_true, ite_false, ne_eq, not_true_eq_false, not_false_eq_true] at *; omega)) (fun hb58 => ?_) (fun hb58 => ?_)
  · refine mw_iload_n dM_holders_115 rfl ?_
    refine mw_iret dM_holders_116 rfl ?_
    have e9 : i = s.1 12 := by omega
    rw [e9]
    exact hk
  · refine mw_iconst dM_holders_61 ?_
    refine mw_istore dM_holders_62 (by decide) rfl ?_
    refine mw_lo ?_ (mo_hold_l3 (l := l) (i := i) (N := K + mo_hs s l (i - 1).toNat) hl h12 (by omega) (by omega) (fun k => ?_) 0 (by decide) (by decide) (Or.inr rfl))
    · show _ = _
      rw [show mo_h3 s l i (0 : Int).toNat = 0 from rfl, Int.add_zero]
      rfl
    · refine mw_iinc dM_holders_109 rfl (by decide) rfl ?_
      refine mw_goto (tgt := 53) dM_holders_112 (by decide) ?_
      have e1 := mo_hs_s s l h0
      refine mw_lo ?_ (ih (by omega) (by omega) (some (.int (iI k))))
      rw [show (i + 1 - 1) = i by omega, e1, Int.add_assoc]
      rfl
theorem mo_hold_l1 {l K : Int} (hl : 0 ≤ l ∧ l ≤ 40) (h12 : 1 ≤ s.1 12 ∧ s.1 12 ≤ 12) (hK : 0 ≤ K ∧ K ≤ 2) (hk : Q (.inl (some (.int (iI (K + mo_hk s l 40 + mo_hs s l (s.1 12 - 1).toNat))))) s) : ∀ i : Int, i ≤ 41 → 1 ≤ i → mw G b ad mM_holders d Q 12 [some (.ref b), some (.int (iI l)), some (.int (iI (K + mo_hk s l (i - 1).toNat))), some (.int (iI i)), none] [] s kc ks := by
  refine il_up 41 (fun i hi ih h0 => ?_)
  refine mw_iload_n dM_holders_12 rfl ?_
  refine mw_bipush dM_holders_13 (by decide +kernel) ?_
  have hkb := mo_hk_b s l (i - 1).toNat
  refine mw_icmp_ge (tgt := 51) dM_holders_15 (by decide) (by first | omega | (simp only [mo_uz_1, mo_uz_2, mo_uf_1, mo_uf_2, mo_uf_22, mo_ug_1, mo_ug_2, mo_ug_22, mo_len, Nat.reduceEqDiff, false_and, true_and, and_true, and_false, if_false, if_true, reduceIte, ite_true, ite_false, ne_eq, not_true_eq_false, not_false_eq_true] at *; omega)) (by first | omega | (simp only [mo_uz_1, mo_uz_2, mo_uf_1, mo_uf_2, mo_uf_22, mo_ug_1, mo_ug_2, mo_ug_22, mo_len, Nat.reduceEqDiff, false_and, true_and, and_true, and_false, if_false, if_true, reduceIte, ite_true, ite_false, ne_eq, not_true_eq_false, not_false_eq_true] at *; omega)) (fun hb15 => ?_) (fun hb15 => ?_)
  · refine mw_iconst dM_holders_51 ?_
    refine mw_istore_n dM_holders_52 (by decide) rfl ?_
    have e9 : i = 41 := by omega
    subst e9
    have hkb2 := mo_hk_b s l 40
    have e0 : K + mo_hk s l ((41 : Int) - 1).toNat = K + mo_hk s l 40 + mo_hs s l ((1 : Int) - 1).toNat := by
      show K + mo_hk s l 40 = K + mo_hk s l 40 + 0
      omega
    refine mw_lo ?_ (mo_hold_l2 (K := K + mo_hk s l 40) hl h12 (by omega) hk 1 h12.1 (by decide) none)
    rw [e0]
    rfl
  · refine mw_aload_n dM_holders_18 rfl ?_
    refine mw_get dM_holders_19 fM_22 rfl ?_
    refine mw_iload_n dM_holders_22 rfl ?_
    refine mw_zald dM_holders_23 rfl rfl (by first | omega | (simp only [mo_uz_1, mo_uz_2, mo_uf_1, mo_uf_2, mo_uf_22, mo_ug_1, mo_ug_2, mo_ug_22, mo_len, Nat.reduceEqDiff, false_and, true_and, and_true, and_false, if_false, if_true, reduceIte, ite_true, ite_false, ne_eq, not_true_eq_false, not_false_eq_true] at *; omega)) (by first | omega | (simp only [mo_uz_1, mo_uz_2, mo_uf_1, mo_uf_2, mo_uf_22, mo_ug_1, mo_ug_2, mo_ug_22, mo_len, Nat.reduceEqDiff, false_and, true_and, and_true, and_false, if_false, if_true, reduceIte, ite_true, ite_false, ne_eq, not_true_eq_false, not_false_eq_true] at *; omega)) (fun hv23 => ?_)
    refine mw_if_eq (tgt := 43) dM_holders_24 (by decide) (by first | omega | (simp only [mo_uz_1, mo_uz_2, mo_uf_1, mo_uf_2, mo_uf_22, mo_ug_1, mo_ug_2, mo_ug_22, mo_len, Nat.reduceEqDiff, false_and, true_and, and_true, and_false, if_false, if_true, reduceIte, ite_true, ite_false, ne_eq, not_true_eq_false, not_false_eq_true] at *; omega)) (fun hb24 => ?_) (fun hb24 => ?_)
    · refine mw_iload_n dM_holders_43 rfl ?_
      refine mw_istore_n dM_holders_44 (by decide) rfl ?_
      refine mw_iinc dM_holders_45 rfl (by decide) rfl ?_
      refine mw_goto (tgt := 12) dM_holders_48 (by decide) ?_
      have e1 := mo_hk_s s l h0
      refine mw_lo ?_ (ih (by omega) (by omega))
      rw [show (i + 1 - 1) = i by omega, e1]
      first | rw [if_pos ⟨by omega, by omega⟩, ← Int.add_assoc] | rw [if_neg (fun z => by omega), Int.add_zero]
      rfl
    · refine mw_aload_n dM_holders_27 rfl ?_
      refine mw_get dM_holders_28 fM_29 rfl ?_
      refine mw_iload_n dM_holders_31 rfl ?_
      refine mw_iald dM_holders_32 rfl rfl (by first | omega | (simp only [mo_uz_1, mo_uz_2, mo_uf_1, mo_uf_2, mo_uf_22, mo_ug_1, mo_ug_2, mo_ug_22, mo_len, Nat.reduceEqDiff, false_and, true_and, and_true, and_false, if_false, if_true, reduceIte, ite_true, ite_false, ne_eq, not_true_eq_false, not_false_eq_true] at *; omega)) (by first | omega | (simp only [mo_uz_1, mo_uz_2, mo_uf_1, mo_uf_2, mo_uf_22, mo_ug_1, mo_ug_2, mo_ug_22, mo_len, Nat.reduceEqDiff, false_and, true_and, and_true, and_false, if_false, if_true, reduceIte, ite_true, ite_false, ne_eq, not_true_eq_false, not_false_eq_true] at *; omega)) (fun hv32 => ?_)
      refine mw_iload_n dM_holders_33 rfl ?_
      refine mw_icmp_ne (tgt := 43) dM_holders_34 (by decide) (by first | omega | (simp only [mo_uz_1, mo_uz_2, mo_uf_1, mo_uf_2, mo_uf_22, mo_ug_1, mo_ug_2, mo_ug_22, mo_len, Nat.reduceEqDiff, false_and, true_and, and_true, and_false, if_false, if_true, reduceIte, ite_true, ite_false, ne_eq, not_true_eq_false, not_false_eq_true] at *; omega)) (by first | omega | (simp only [mo_uz_1, mo_uz_2, mo_uf_1, mo_uf_2, mo_uf_22, mo_ug_1, mo_ug_2, mo_ug_22, mo_len, Nat.reduceEqDiff, false_and, true_and, and_true, and_false, if_false, if_true, reduceIte, ite_true, ite_false, ne_eq, not_true_eq_false, not_false_eq_true] at *; omega)) (fun hb34 => ?_) (fun hb34 => ?_)
      · refine mw_iload_n dM_holders_43 rfl ?_
        refine mw_istore_n dM_holders_44 (by decide) rfl ?_
        refine mw_iinc dM_holders_45 rfl (by decide) rfl ?_
        refine mw_goto (tgt := 12) dM_holders_48 (by decide) ?_
        have e1 := mo_hk_s s l h0
        refine mw_lo ?_ (ih (by omega) (by omega))
        rw [show (i + 1 - 1) = i by omega, e1]
        first | rw [if_pos ⟨by omega, by omega⟩, ← Int.add_assoc] | rw [if_neg (fun z => by omega), Int.add_zero]
        rfl
      · refine mw_iload_n dM_holders_37 rfl ?_
        refine mw_iconst dM_holders_38 ?_
        refine mw_iadd dM_holders_39 ?_
        refine mw_goto (tgt := 44) dM_holders_40 (by decide) ?_
        refine mw_istore_n dM_holders_44 (by decide) rfl ?_
        refine mw_iinc dM_holders_45 rfl (by decide) rfl ?_
        refine mw_goto (tgt := 12) dM_holders_48 (by decide) ?_
        have e1 := mo_hk_s s l h0
        refine mw_lo ?_ (ih (by omega) (by omega))
        rw [show (i + 1 - 1) = i by omega, e1]
        first | rw [if_pos ⟨by omega, by omega⟩, ← Int.add_assoc] | rw [if_neg (fun z => by omega), Int.add_zero]
        rfl
theorem mo_holders {l : Int} (hl : 0 ≤ l ∧ l ≤ 40) (h12 : 1 ≤ s.1 12 ∧ s.1 12 ≤ 12) (hk : Q (.inl (some (.int (iI (mo_hold s l))))) s) : mw G b ad mM_holders d Q 0 [some (.ref b), some (.int (iI l)), none, none, none] [] s kc ks := by
  refine mw_iload_n dM_holders_0 rfl ?_
  refine mw_if_ne (tgt := 8) dM_holders_1 (by decide) (by first | omega | (simp only [mo_uz_1, mo_uz_2, mo_uf_1, mo_uf_2, mo_uf_22, mo_ug_1, mo_ug_2, mo_ug_22, mo_len, Nat.reduceEqDiff, false_and, true_and, and_true, and_false, if_false, if_true, reduceIte, ite_true, ite_false, ne_eq, not_true_eq_false, not_false_eq_true] at *; omega)) (fun hb1 => ?_) (fun hb1 => ?_)
  · refine mw_iconst dM_holders_8 ?_
    refine mw_istore_n dM_holders_9 (by decide) rfl ?_
    refine mw_iconst dM_holders_10 ?_
    refine mw_istore_n dM_holders_11 (by decide) rfl ?_
    unfold mo_hold at hk
    first
      | (rw [if_pos (by omega)] at hk; exact mo_hold_l1 (K := 2) hl h12 (by decide) hk 1 (by decide) (by decide))
      | (rw [if_neg (by omega)] at hk; exact mo_hold_l1 (K := 0) hl h12 (by decide) hk 1 (by decide) (by decide))
  · refine mw_iconst dM_holders_4 ?_
    refine mw_goto (tgt := 9) dM_holders_5 (by decide) ?_
    refine mw_istore_n dM_holders_9 (by decide) rfl ?_
    refine mw_iconst dM_holders_10 ?_
    refine mw_istore_n dM_holders_11 (by decide) rfl ?_
    unfold mo_hold at hk
    first
      | (rw [if_pos (by omega)] at hk; exact mo_hold_l1 (K := 2) hl h12 (by decide) hk 1 (by decide) (by decide))
      | (rw [if_neg (by omega)] at hk; exact mo_hold_l1 (K := 0) hl h12 (by decide) hk 1 (by decide) (by decide))
end MO6
