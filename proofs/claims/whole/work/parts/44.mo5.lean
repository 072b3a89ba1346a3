/-! the reference: add, admits, copySheet, alike, holders, look -/
section MO5
variable {G : aw_G} {b : Nat} {ad : Nat → Nat} {d : Nat} {Q : aw_O → mo_S → Prop} {s : mo_S} {kc ks : Nat}
theorem mo_add_l {p a x i : Int} (hi : 0 ≤ i ∧ i ≤ 23) (ha : iB a) (hl : 0 ≤ s.2.1 16 i ∧ s.2.1 16 i ≤ 4) (hk : ∀ m k, (m = 1 ∧ s.2.1 16 i < 4 ∧ ∀ j, 0 ≤ j → j < s.2.1 16 i → s.2.1 15 (4 * i + j) ≠ a) ∨ (m = 0 ∧ ¬ (s.2.1 16 i < 4 ∧ ∀ j, 0 ≤ j → j < s.2.1 16 i → s.2.1 15 (4 * i + j) ≠ a)) → mw G b ad mM_add (d + 1) Q 137 [some (.ref b), some (.int (iI p)), some (.int (iI a)), some (.int (iI x)), some (.int (iI i)), some (.int (iI m)), some (.int (iI k))] [] s kc ks) : ∀ k : Int, k ≤ s.2.1 16 i → 0 ≤ k → ∀ m, (m = 1 ∧ s.2.1 16 i < 4 ∧ ∀ j, 0 ≤ j → j < k → s.2.1 15 (4 * i + j) ≠ a) ∨ (m = 0 ∧ ¬ (s.2.1 16 i < 4 ∧ ∀ j, 0 ≤ j → j < s.2.1 16 i → s.2.1 15 (4 * i + j) ≠ a)) → mw G b ad mM_add (d + 1) Q 91 [some (.ref b), some (.int (iI p)), some (.int (iI a)), some (.int (iI x)), some (.int (iI i)), some (.int (iI m)), some (.int (iI k))] [] s kc ks := by
  refine il_up (s.2.1 16 i) (fun k hkk ih h0 m hm => ?_)
  have hmb : m = 0 ∨ m = 1 := by rcases hm with hm | hm <;> omega
  refine mw_iload dM_add_91 rfl ?_
  refine mw_aload_n dM_add_93 rfl ?_
  refine mw_get dM_add_94 fM_58 rfl ?_
  refine mw_iload dM_add_97 rfl ?_
  refine mw_iald dM_add_99 rfl rfl (by first | omega | (simp only [mo_uz_1, mo_uz_2, mo_uf_1, mo_uf_2, mo_uf_22, mo_ug_1, mo_ug_2, mo_ug_22, mo_len, Nat.reduceEqDiff, false_and, true_and, and_true, and_false, if_false, if_true, reduceIte, ite_true, ite_false, ne_eq, not_true_eq_false, not_false_eq_true] at *; omega)) (by first | omega | (simp only [mo_uz_1, mo_uz_2, mo_uf_1, mo_uf_2, mo_uf_22, mo_ug_1, mo_ug_2, mo_ug_22, mo_len, Nat.reduceEqDiff, false_and, true_and, and_true, and_false, if_false, if_true, reduceIte, ite_true, ite_false, ne_eq, not_true_eq_false, not_false_eq_true] at *; omega)) (fun hv99 => ?_)
  refine mw_icmp_ge (tgt := 137) dM_add_100 (by decide) (by first | omega | (simp only [mo_uz_1, mo_uz_2, mo_uf_1, mo_uf_2, mo_uf_22, mo_ug_1, mo_ug_2, mo_ug_22, mo_len, Nat.reduceEqDiff, false_and, true_and, and_true, and_false, if_false, if_true, reduceIte, ite_true, ite_false, ne_eq, not_true_eq_false, not_false_eq_true] at *; omega)) (by first | omega | (simp only [mo_uz_1, mo_uz_2, mo_uf_1, mo_uf_2, mo_uf_22, mo_ug_1, mo_ug_2, mo_ug_22, mo_len, Nat.reduceEqDiff, false_and, true_and, and_true, and_false, if_false, if_true, reduceIte, ite_true, ite_false, ne_eq, not_true_eq_false, not_false_eq_true] at *; omega)) (fun hb100 => ?_) (fun hb100 => ?_)
  · rcases hm with ⟨g1, g2, g3⟩ | ⟨g1, g2⟩
    · exact hk m k (Or.inl ⟨g1, g2, fun j q1 q2 => g3 j q1 (by omega)⟩)
    · exact hk m k (Or.inr ⟨g1, g2⟩)
  · refine mw_iload dM_add_103 rfl ?_
    refine mw_if_eq (tgt := 128) dM_add_105 (by decide) (by first | omega | (simp only [mo_uz_1, mo_uz_2, mo_uf_1, mo_uf_2, mo_uf_22, mo_ug_1, mo_ug_2, mo_ug_22, mo_len, Nat.reduceEqDiff, false_and, true_and, and_true, and_false, if_false, if_true, reduceIte, ite_true, ite_false, ne_eq, not_true_eq_false, not_false_eq_true] at *; omega)) (fun hb105 => ?_) (fun hb105 => ?_)
    · refine mw_iconst dM_add_128 ?_
      refine mw_istore dM_add_129 (by decide) rfl ?_
      refine mw_iinc dM_add_131 rfl (by decide) rfl ?_
      refine mw_goto (tgt := 91) dM_add_134 (by decide) ?_
      rcases hm with ⟨g1, g2, g3⟩ | ⟨g1, g2⟩
      · refine ih (by omega) (by omega) _ ?_
        first
          | exact Or.inl ⟨rfl, g2, fun j q1 q2 => by
              by_cases e : j = k
              · rw [e]; omega
              · exact g3 j q1 (by omega)⟩
          | exact Or.inr ⟨rfl, fun z => z.2 k h0 (by omega) (by omega)⟩
      · first
          | exact ih (by omega) (by omega) _ (Or.inr ⟨rfl, g2⟩)
          | omega
    · refine mw_aload_n dM_add_108 rfl ?_
      refine mw_get dM_add_109 fM_55 rfl ?_
      refine mw_iconst dM_add_112 ?_
      refine mw_iload dM_add_113 rfl ?_
      refine mw_imul dM_add_115 ?_
      refine mw_iload dM_add_116 rfl ?_
      refine mw_iadd dM_add_118 ?_
      refine mw_iald dM_add_119 rfl rfl (by first | omega | (simp only [mo_uz_1, mo_uz_2, mo_uf_1, mo_uf_2, mo_uf_22, mo_ug_1, mo_ug_2, mo_ug_22, mo_len, Nat.reduceEqDiff, false_and, true_and, and_true, and_false, if_false, if_true, reduceIte, ite_true, ite_false, ne_eq, not_true_eq_false, not_false_eq_true] at *; omega)) (by first | omega | (simp only [mo_uz_1, mo_uz_2, mo_uf_1, mo_uf_2, mo_uf_22, mo_ug_1, mo_ug_2, mo_ug_22, mo_len, Nat.reduceEqDiff, false_and, true_and, and_true, and_false, if_false, if_true, reduceIte, ite_true, ite_false, ne_eq, not_true_eq_false, not_false_eq_true] at *; omega)) (fun hv119 => ?_)
      refine mw_iload_n dM_add_120 rfl ?_
      refine mw_icmp_eq (tgt := 128) dM_add_121 (by decide) (by first | omega | (simp only [mo_uz_1, mo_uz_2, mo_uf_1, mo_uf_2, mo_uf_22, mo_ug_1, mo_ug_2, mo_ug_22, mo_len, Nat.reduceEqDiff, false_and, true_and, and_true, and_false, if_false, if_true, reduceIte, ite_true, ite_false, ne_eq, not_true_eq_false, not_false_eq_true] at *; omega)) (by first | omega | (simp only [mo_uz_1, mo_uz_2, mo_uf_1, mo_uf_2, mo_uf_22, mo_ug_1, mo_ug_2, mo_ug_22, mo_len, Nat.reduceEqDiff, false_and, true_and, and_true, and_false, if_false, if_true, reduceIte, ite_true, ite_false, ne_eq, not_true_eq_false, not_false_eq_true] at *; omega)) (fun hb121 => ?_) (fun hb121 => ?_)
      · refine mw_iconst dM_add_128 ?_
        refine mw_istore dM_add_129 (by decide) rfl ?_
        refine mw_iinc dM_add_131 rfl (by decide) rfl ?_
        refine mw_goto (tgt := 91) dM_add_134 (by decide) ?_
        rcases hm with ⟨g1, g2, g3⟩ | ⟨g1, g2⟩
        · refine ih (by omega) (by omega) _ ?_
          first
            | exact Or.inl ⟨rfl, g2, fun j q1 q2 => by
                by_cases e : j = k
                · rw [e]; omega
                · exact g3 j q1 (by omega)⟩
            | exact Or.inr ⟨rfl, fun z => z.2 k h0 (by omega) (by omega)⟩
        · first
            | exact ih (by omega) (by omega) _ (Or.inr ⟨rfl, g2⟩)
            | omega
      · refine mw_iconst dM_add_124 ?_
        refine mw_goto (tgt := 129) dM_add_125 (by decide) ?_
        refine mw_istore dM_add_129 (by decide) rfl ?_
        refine mw_iinc dM_add_131 rfl (by decide) rfl ?_
        refine mw_goto (tgt := 91) dM_add_134 (by decide) ?_
        rcases hm with ⟨g1, g2, g3⟩ | ⟨g1, g2⟩
        · refine ih (by omega) (by omega) _ ?_
          first
            | exact Or.inl ⟨rfl, g2, fun j q1 q2 => by
                by_cases e : j = k
                · rw [e]; omega
                · exact g3 j q1 (by omega)⟩
            | exact Or.inr ⟨rfl, fun z => z.2 k h0 (by omega) (by omega)⟩
        · first
            | exact ih (by omega) (by omega) _ (Or.inr ⟨rfl, g2⟩)
            | omega
theorem mo_add_e {p a x i m k : Int} (hi : 0 ≤ i ∧ i ≤ 23) (ha : iB a) (hl : 0 ≤ s.2.1 16 i ∧ s.2.1 16 i ≤ 4) (hm : (m = 1 ∧ s.2.1 16 i < 4 ∧ ∀ j, 0 ≤ j → j < s.2.1 16 i → s.2.1 15 (4 * i + j) ≠ a) ∨ (m = 0 ∧ ¬ (s.2.1 16 i < 4 ∧ ∀ j, 0 ≤ j → j < s.2.1 16 i → s.2.1 15 (4 * i + j) ≠ a))) (hno : ¬ (s.2.1 16 i < 4 ∧ ∀ j, 0 ≤ j → j < s.2.1 16 i → s.2.1 15 (4 * i + j) ≠ a) → Q (.inl (some (.int (iI 0)))) s) (hok : (s.2.1 16 i < 4 ∧ ∀ j, 0 ≤ j → j < s.2.1 16 i → s.2.1 15 (4 * i + j) ≠ a) → Q (.inl (some (.int (iI 1)))) (mo_uf (mo_uf s 15 (4 * i + s.2.1 16 i) a) 16 i (s.2.1 16 i + 1))) : mw G b ad mM_add (d + 1) Q 137 [some (.ref b), some (.int (iI p)), some (.int (iI a)), some (.int (iI x)), some (.int (iI i)), some (.int (iI m)), some (.int (iI k))] [] s kc ks := by
  have hmb : m = 0 ∨ m = 1 := by rcases hm with hm | hm <;> omega
  refine mw_iload dM_add_137 rfl ?_
  refine mw_if_ne (tgt := 144) dM_add_139 (by decide) (by first | omega | (simp only [mo_uz_1, mo_uz_2, mo_uf_1, mo_uf_2, mo_uf_22, mo_ug_1, mo_ug_2, mo_ug_22, mo_len, Nat.reduceEqDiff, false_and, true_and, and_true, and_false, if_false, if_true, reduceIte, ite_true, ite_false, ne_eq, not_true_eq_false, not_false_eq_true] at *; omega)) (fun hb139 => ?_) (fun hb139 => ?_)
  · refine mw_aload_n dM_add_144 rfl ?_
    refine mw_get dM_add_145 fM_55 rfl ?_
    refine mw_iconst dM_add_148 ?_
    refine mw_iload dM_add_149 rfl ?_
    refine mw_imul dM_add_151 ?_
    refine mw_aload_n dM_add_152 rfl ?_
    refine mw_get dM_add_153 fM_58 rfl ?_
    refine mw_iload dM_add_156 rfl ?_
    refine mw_iald dM_add_158 rfl rfl (by first | omega | (simp only [mo_uz_1, mo_uz_2, mo_uf_1, mo_uf_2, mo_uf_22, mo_ug_1, mo_ug_2, mo_ug_22, mo_len, Nat.reduceEqDiff, false_and, true_and, and_true, and_false, if_false, if_true, reduceIte, ite_true, ite_false, ne_eq, not_true_eq_false, not_false_eq_true] at *; omega)) (by first | omega | (simp only [mo_uz_1, mo_uz_2, mo_uf_1, mo_uf_2, mo_uf_22, mo_ug_1, mo_ug_2, mo_ug_22, mo_len, Nat.reduceEqDiff, false_and, true_and, and_true, and_false, if_false, if_true, reduceIte, ite_true, ite_false, ne_eq, not_true_eq_false, not_false_eq_true] at *; omega)) (fun hv158 => ?_)
    refine mw_iadd dM_add_159 ?_
    refine mw_iload_n dM_add_160 rfl ?_
    refine mw_iast dM_add_161 rfl rfl (by first | omega | (simp only [mo_uz_1, mo_uz_2, mo_uf_1, mo_uf_2, mo_uf_22, mo_ug_1, mo_ug_2, mo_ug_22, mo_len, Nat.reduceEqDiff, false_and, true_and, and_true, and_false, if_false, if_true, reduceIte, ite_true, ite_false, ne_eq, not_true_eq_false, not_false_eq_true] at *; omega)) (by first | omega | (simp only [mo_uz_1, mo_uz_2, mo_uf_1, mo_uf_2, mo_uf_22, mo_ug_1, mo_ug_2, mo_ug_22, mo_len, Nat.reduceEqDiff, false_and, true_and, and_true, and_false, if_false, if_true, reduceIte, ite_true, ite_false, ne_eq, not_true_eq_false, not_false_eq_true] at *; omega)) (by first | omega | (simp only [mo_uz_1, mo_uz_2, mo_uf_1, mo_uf_2, mo_uf_22, mo_ug_1, mo_ug_2, mo_ug_22, mo_len, Nat.reduceEqDiff, false_and, true_and, and_true, and_false, if_false, if_true, reduceIte, ite_true, ite_false, ne_eq, not_true_eq_false, not_false_eq_true] at *; omega)) ?_
    refine mw_aload_n dM_add_162 rfl ?_
    refine mw_get dM_add_163 fM_58 rfl ?_
    refine mw_iload dM_add_166 rfl ?_
    refine mw_dup2 dM_add_168 rfl rfl ?_
    refine mw_iald dM_add_169 rfl rfl (by first | omega | (simp only [mo_uz_1, mo_uz_2, mo_uf_1, mo_uf_2, mo_uf_22, mo_ug_1, mo_ug_2, mo_ug_22, mo_len, Nat.reduceEqDiff, false_and, true_and, and_true, and_false, if_false, if_true, reduceIte, ite_true, ite_false, ne_eq, not_true_eq_false, not_false_eq_true] at *; omega)) (by first | omega | (simp only [mo_uz_1, mo_uz_2, mo_uf_1, mo_uf_2, mo_uf_22, mo_ug_1, mo_ug_2, mo_ug_22, mo_len, Nat.reduceEqDiff, false_and, true_and, and_true, and_false, if_false, if_true, reduceIte, ite_true, ite_false, ne_eq, not_true_eq_false, not_false_eq_true] at *; omega)) (fun hv169 => ?_)
    refine mw_iconst dM_add_170 ?_
    refine mw_iadd dM_add_171 ?_
    refine mw_iast dM_add_172 rfl rfl (by first | omega | (simp only [mo_uz_1, mo_uz_2, mo_uf_1, mo_uf_2, mo_uf_22, mo_ug_1, mo_ug_2, mo_ug_22, mo_len, Nat.reduceEqDiff, false_and, true_and, and_true, and_false, if_false, if_true, reduceIte, ite_true, ite_false, ne_eq, not_true_eq_false, not_false_eq_true] at *; omega)) (by first | omega | (simp only [mo_uz_1, mo_uz_2, mo_uf_1, mo_uf_2, mo_uf_22, mo_ug_1, mo_ug_2, mo_ug_22, mo_len, Nat.reduceEqDiff, false_and, true_and, and_true, and_false, if_false, if_true, reduceIte, ite_true, ite_false, ne_eq, not_true_eq_false, not_false_eq_true] at *; omega)) (by first | omega | (simp only [mo_uz_1, mo_uz_2, mo_uf_1, mo_uf_2, mo_uf_22, mo_ug_1, mo_ug_2, mo_ug_22, mo_len, Nat.reduceEqDiff, false_and, true_and, and_true, and_false, if_false, if_true, reduceIte, ite_true, ite_false, ne_eq, not_true_eq_false, not_false_eq_true] at *; omega)) ?_
    refine mw_iconst dM_add_173 ?_
    refine mw_zret dM_add_174 rfl (by first | omega | (simp only [mo_uz_1, mo_uz_2, mo_uf_1, mo_uf_2, mo_uf_22, mo_ug_1, mo_ug_2, mo_ug_22, mo_len, Nat.reduceEqDiff, false_and, true_and, and_true, and_false, if_false, if_true, reduceIte, ite_true, ite_false, ne_eq, not_true_eq_false, not_false_eq_true] at *; omega)) ?_
    rcases hm with ⟨g1, g2, g3⟩ | ⟨g1, g2⟩
    · exact hok ⟨g2, g3⟩
    · omega
  · refine mw_iconst dM_add_142 ?_
    refine mw_zret dM_add_143 rfl (by first | omega | (simp only [mo_uz_1, mo_uz_2, mo_uf_1, mo_uf_2, mo_uf_22, mo_ug_1, mo_ug_2, mo_ug_22, mo_len, Nat.reduceEqDiff, false_and, true_and, and_true, and_false, if_false, if_true, reduceIte, ite_true, ite_false, ne_eq, not_true_eq_false, not_false_eq_true] at *; omega)) ?_
    rcases hm with ⟨g1, g2, g3⟩ | ⟨g1, g2⟩
    · omega
    · exact hno g2

theorem mo_add {p a x : Int} (hp : iB p) (ha : iB a) (hx : x = 0 ∨ x = 1) (hs : 1 ≤ s.1 12 ∧ s.1 12 ≤ 12) (hl : 0 ≤ p → p < s.1 12 → ∀ y, (y = 0 ∨ y = 1) → 0 ≤ s.2.1 16 (2 * p + y) ∧ s.2.1 16 (2 * p + y) ≤ 4) (hbad : ¬ ((0 ≤ p ∧ p < s.1 12) ∧ 0 ≤ a ∧ a ≤ 9) → Q (.inl (some (.int (iI 0)))) (mo_uz s 0 1)) (hst : (0 ≤ p ∧ p < s.1 12) ∧ 0 ≤ a ∧ a ≤ 9 → 0 < s.2.1 13 p → Q (.inl (some (.int (iI 0)))) (mo_uz (mo_uz s 0 0) 0 2)) (hok : (0 ≤ p ∧ p < s.1 12) ∧ 0 ≤ a ∧ a ≤ 9 → s.2.1 13 p ≤ 0 → ∀ m k, ((m = 1 ∧ s.2.1 16 (2 * p + x) < 4 ∧ ∀ j, 0 ≤ j → j < s.2.1 16 (2 * p + x) → s.2.1 15 (4 * (2 * p + x) + j) ≠ a) ∨ (m = 0 ∧ ¬ (s.2.1 16 (2 * p + x) < 4 ∧ ∀ j, 0 ≤ j → j < s.2.1 16 (2 * p + x) → s.2.1 15 (4 * (2 * p + x) + j) ≠ a))) → mw G b ad mM_add (d + 1) Q 137 [some (.ref b), some (.int (iI p)), some (.int (iI a)), some (.int (iI x)), some (.int (iI (2 * p + x))), some (.int (iI m)), some (.int (iI k))] [] (mo_uz (mo_uz s 0 0) 0 0) kc ks) : mw G b ad mM_add (d + 1) Q 0 [some (.ref b), some (.int (iI p)), some (.int (iI a)), some (.int (iI x)), none, none, none] [] s kc ks := by
  refine mw_aload_n dM_add_0 rfl ?_
  refine mw_aload_n dM_add_1 rfl ?_
  refine mw_iload_n dM_add_2 rfl ?_
  refine mw_callV1 dM_add_3 cM_140 (Nat.le_of_ble_eq_true rfl) (Nat.le_of_ble_eq_true rfl) rfl ?_
  refine mo_noScope (by first | omega | (simp only [mo_uz_1, mo_uz_2, mo_uf_1, mo_uf_2, mo_uf_22, mo_ug_1, mo_ug_2, mo_ug_22, mo_len, Nat.reduceEqDiff, false_and, true_and, and_true, and_false, if_false, if_true, reduceIte, ite_true, ite_false, ne_eq, not_true_eq_false, not_false_eq_true] at *; omega)) (fun hn3 => ?_) (fun hn3 => ?_)
  · refine mw_if_ne (tgt := 19) dM_add_6 (by decide) (by first | omega | (simp only [mo_uz_1, mo_uz_2, mo_uf_1, mo_uf_2, mo_uf_22, mo_ug_1, mo_ug_2, mo_ug_22, mo_len, Nat.reduceEqDiff, false_and, true_and, and_true, and_false, if_false, if_true, reduceIte, ite_true, ite_false, ne_eq, not_true_eq_false, not_false_eq_true] at *; omega)) (fun _ => ?_) (fun hb6 => absurd hb6 (by decide))
    refine mw_iconst dM_add_19 ?_
    refine mw_goto (tgt := 24) dM_add_20 (by decide) ?_
    refine mw_iconst dM_add_24 ?_
    refine mw_callV2 dM_add_25 cM_110 (Nat.le_of_ble_eq_true rfl) (Nat.le_of_ble_eq_true rfl) rfl ?_
    refine mo_fails1 (by decide) ?_
    refine mw_if_ne (tgt := 53) dM_add_28 (by decide) (by first | omega | (simp only [mo_uz_1, mo_uz_2, mo_uf_1, mo_uf_2, mo_uf_22, mo_ug_1, mo_ug_2, mo_ug_22, mo_len, Nat.reduceEqDiff, false_and, true_and, and_true, and_false, if_false, if_true, reduceIte, ite_true, ite_false, ne_eq, not_true_eq_false, not_false_eq_true] at *; omega)) (fun _ => ?_) (fun hb28 => absurd hb28 (by decide))
    refine mw_iconst dM_add_53 ?_
    refine mw_zret dM_add_54 rfl (by first | omega | (simp only [mo_uz_1, mo_uz_2, mo_uf_1, mo_uf_2, mo_uf_22, mo_ug_1, mo_ug_2, mo_ug_22, mo_len, Nat.reduceEqDiff, false_and, true_and, and_true, and_false, if_false, if_true, reduceIte, ite_true, ite_false, ne_eq, not_true_eq_false, not_false_eq_true] at *; omega)) ?_
    first | exact hbad (by first | omega | (simp only [mo_uz_1, mo_uz_2, mo_uf_1, mo_uf_2, mo_uf_22, mo_ug_1, mo_ug_2, mo_ug_22, mo_len, Nat.reduceEqDiff, false_and, true_and, and_true, and_false, if_false, if_true, reduceIte, ite_true, ite_false, ne_eq, not_true_eq_false, not_false_eq_true] at *; omega)) | exact hst (by first | omega | (simp only [mo_uz_1, mo_uz_2, mo_uf_1, mo_uf_2, mo_uf_22, mo_ug_1, mo_ug_2, mo_ug_22, mo_len, Nat.reduceEqDiff, false_and, true_and, and_true, and_false, if_false, if_true, reduceIte, ite_true, ite_false, ne_eq, not_true_eq_false, not_false_eq_true] at *; omega)) (by first | omega | (simp only [mo_uz_1, mo_uz_2, mo_uf_1, mo_uf_2, mo_uf_22, mo_ug_1, mo_ug_2, mo_ug_22, mo_len, Nat.reduceEqDiff, false_and, true_and, and_true, and_false, if_false, if_true, reduceIte, ite_true, ite_false, ne_eq, not_true_eq_false, not_false_eq_true] at *; omega))
  · refine mw_if_ne (tgt := 19) dM_add_6 (by decide) (by first | omega | (simp only [mo_uz_1, mo_uz_2, mo_uf_1, mo_uf_2, mo_uf_22, mo_ug_1, mo_ug_2, mo_ug_22, mo_len, Nat.reduceEqDiff, false_and, true_and, and_true, and_false, if_false, if_true, reduceIte, ite_true, ite_false, ne_eq, not_true_eq_false, not_false_eq_true] at *; omega)) (fun hb6 => absurd hb6 (by decide)) (fun _ => ?_)
    refine mw_iload_n dM_add_9 rfl ?_
    refine mw_iconst dM_add_10 ?_
    refine mw_bipush dM_add_11 (by decide +kernel) ?_
    refine mw_callS3 dM_add_13 cM_106 (Nat.le_of_ble_eq_true rfl) (Nat.le_of_ble_eq_true rfl) rfl ?_
    refine mo_in (by first | omega | (simp only [mo_uz_1, mo_uz_2, mo_uf_1, mo_uf_2, mo_uf_22, mo_ug_1, mo_ug_2, mo_ug_22, mo_len, Nat.reduceEqDiff, false_and, true_and, and_true, and_false, if_false, if_true, reduceIte, ite_true, ite_false, ne_eq, not_true_eq_false, not_false_eq_true] at *; omega)) (by first | omega | (simp only [mo_uz_1, mo_uz_2, mo_uf_1, mo_uf_2, mo_uf_22, mo_ug_1, mo_ug_2, mo_ug_22, mo_len, Nat.reduceEqDiff, false_and, true_and, and_true, and_false, if_false, if_true, reduceIte, ite_true, ite_false, ne_eq, not_true_eq_false, not_false_eq_true] at *; omega)) (by first | omega | (simp only [mo_uz_1, mo_uz_2, mo_uf_1, mo_uf_2, mo_uf_22, mo_ug_1, mo_ug_2, mo_ug_22, mo_len, Nat.reduceEqDiff, false_and, true_and, and_true, and_false, if_false, if_true, reduceIte, ite_true, ite_false, ne_eq, not_true_eq_false, not_false_eq_true] at *; omega)) (fun hi13 => ?_) (fun hi13 => ?_)
    · refine mw_if_ne (tgt := 23) dM_add_16 (by decide) (by first | omega | (simp only [mo_uz_1, mo_uz_2, mo_uf_1, mo_uf_2, mo_uf_22, mo_ug_1, mo_ug_2, mo_ug_22, mo_len, Nat.reduceEqDiff, false_and, true_and, and_true, and_false, if_false, if_true, reduceIte, ite_true, ite_false, ne_eq, not_true_eq_false, not_false_eq_true] at *; omega)) (fun _ => ?_) (fun hb16 => absurd hb16 (by decide))
      refine mw_iconst dM_add_23 ?_
      refine mw_iconst dM_add_24 ?_
      refine mw_callV2 dM_add_25 cM_110 (Nat.le_of_ble_eq_true rfl) (Nat.le_of_ble_eq_true rfl) rfl ?_
      refine mo_fails0 (by decide) ?_
      refine mw_if_ne (tgt := 53) dM_add_28 (by decide) (by first | omega | (simp only [mo_uz_1, mo_uz_2, mo_uf_1, mo_uf_2, mo_uf_22, mo_ug_1, mo_ug_2, mo_ug_22, mo_len, Nat.reduceEqDiff, false_and, true_and, and_true, and_false, if_false, if_true, reduceIte, ite_true, ite_false, ne_eq, not_true_eq_false, not_false_eq_true] at *; omega)) (fun hb28 => absurd hb28 (by decide)) (fun _ => ?_)
      refine mw_aload_n dM_add_31 rfl ?_
      refine mw_aload_n dM_add_32 rfl ?_
      refine mw_get dM_add_33 fM_49 rfl ?_
      refine mw_iload_n dM_add_36 rfl ?_
      refine mw_iald dM_add_37 rfl rfl (by first | omega | (simp only [mo_uz_1, mo_uz_2, mo_uf_1, mo_uf_2, mo_uf_22, mo_ug_1, mo_ug_2, mo_ug_22, mo_len, Nat.reduceEqDiff, false_and, true_and, and_true, and_false, if_false, if_true, reduceIte, ite_true, ite_false, ne_eq, not_true_eq_false, not_false_eq_true] at *; omega)) (by first | omega | (simp only [mo_uz_1, mo_uz_2, mo_uf_1, mo_uf_2, mo_uf_22, mo_ug_1, mo_ug_2, mo_ug_22, mo_len, Nat.reduceEqDiff, false_and, true_and, and_true, and_false, if_false, if_true, reduceIte, ite_true, ite_false, ne_eq, not_true_eq_false, not_false_eq_true] at *; omega)) (fun hv37 => ?_)
      refine mw_if_le (tgt := 45) dM_add_38 (by decide) (by first | omega | (simp only [mo_uz_1, mo_uz_2, mo_uf_1, mo_uf_2, mo_uf_22, mo_ug_1, mo_ug_2, mo_ug_22, mo_len, Nat.reduceEqDiff, false_and, true_and, and_true, and_false, if_false, if_true, reduceIte, ite_true, ite_false, ne_eq, not_true_eq_false, not_false_eq_true] at *; omega)) (fun hb38 => ?_) (fun hb38 => ?_)
      · refine mw_iconst dM_add_45 ?_
        refine mw_iconst dM_add_46 ?_
        refine mw_callV2 dM_add_47 cM_110 (Nat.le_of_ble_eq_true rfl) (Nat.le_of_ble_eq_true rfl) rfl ?_
        refine mo_fails0 (by decide) ?_
        refine mw_if_eq (tgt := 55) dM_add_50 (by decide) (by first | omega | (simp only [mo_uz_1, mo_uz_2, mo_uf_1, mo_uf_2, mo_uf_22, mo_ug_1, mo_ug_2, mo_ug_22, mo_len, Nat.reduceEqDiff, false_and, true_and, and_true, and_false, if_false, if_true, reduceIte, ite_true, ite_false, ne_eq, not_true_eq_false, not_false_eq_true] at *; omega)) (fun _ => ?_) (fun hb50 => absurd hb50 (by decide))
        refine mw_iconst dM_add_55 ?_
        refine mw_iload_n dM_add_56 rfl ?_
        refine mw_imul dM_add_57 ?_
        refine mw_iload_n dM_add_58 rfl ?_
        refine mw_if_eq (tgt := 66) dM_add_59 (by decide) (by first | omega | (simp only [mo_uz_1, mo_uz_2, mo_uf_1, mo_uf_2, mo_uf_22, mo_ug_1, mo_ug_2, mo_ug_22, mo_len, Nat.reduceEqDiff, false_and, true_and, and_true, and_false, if_false, if_true, reduceIte, ite_true, ite_false, ne_eq, not_true_eq_false, not_false_eq_true] at *; omega)) (fun hb59 => ?_) (fun hb59 => ?_)
        · refine mw_iconst dM_add_66 ?_
          refine mw_iadd dM_add_67 ?_
          refine mw_istore dM_add_68 (by decide) rfl ?_
          refine mw_aload_n dM_add_70 rfl ?_
          refine mw_get dM_add_71 fM_58 rfl ?_
          refine mw_iload dM_add_74 rfl ?_
          refine mw_iald dM_add_76 rfl rfl (by first | omega | (simp only [mo_uz_1, mo_uz_2, mo_uf_1, mo_uf_2, mo_uf_22, mo_ug_1, mo_ug_2, mo_ug_22, mo_len, Nat.reduceEqDiff, false_and, true_and, and_true, and_false, if_false, if_true, reduceIte, ite_true, ite_false, ne_eq, not_true_eq_false, not_false_eq_true] at *; omega)) (by first | omega | (simp only [mo_uz_1, mo_uz_2, mo_uf_1, mo_uf_2, mo_uf_22, mo_ug_1, mo_ug_2, mo_ug_22, mo_len, Nat.reduceEqDiff, false_and, true_and, and_true, and_false, if_false, if_true, reduceIte, ite_true, ite_false, ne_eq, not_true_eq_false, not_false_eq_true] at *; omega)) (fun hv76 => ?_)
          refine mw_iconst dM_add_77 ?_
          refine mw_icmp_ge (tgt := 85) dM_add_78 (by decide) (by first | omega | (simp only [mo_uz_1, mo_uz_2, mo_uf_1, mo_uf_2, mo_uf_22, mo_ug_1, mo_ug_2, mo_ug_22, mo_len, Nat.reduceEqDiff, false_and, true_and, and_true, and_false, if_false, if_true, reduceIte, ite_true, ite_false, ne_eq, not_true_eq_false, not_false_eq_true] at *; omega)) (by first | omega | (simp only [mo_uz_1, mo_uz_2, mo_uf_1, mo_uf_2, mo_uf_22, mo_ug_1, mo_ug_2, mo_ug_22, mo_len, Nat.reduceEqDiff, false_and, true_and, and_true, and_false, if_false, if_true, reduceIte, ite_true, ite_false, ne_eq, not_true_eq_false, not_false_eq_true] at *; omega)) (fun hb78 => ?_) (fun hb78 => ?_)
          · refine mw_iconst dM_add_85 ?_
            refine mw_istore dM_add_86 (by decide) rfl ?_
            refine mw_iconst dM_add_88 ?_
            refine mw_istore dM_add_89 (by decide) rfl ?_
            have hl9 := hl (by omega) (by first | omega | (simp only [mo_uz_1, mo_uz_2, mo_uf_1, mo_uf_2, mo_uf_22, mo_ug_1, mo_ug_2, mo_ug_22, mo_len, Nat.reduceEqDiff, false_and, true_and, and_true, and_false, if_false, if_true, reduceIte, ite_true, ite_false, ne_eq, not_true_eq_false, not_false_eq_true] at *; omega)) x hx
            have hx9 : x = 0 ∨ x = 1 := hx
            rcases hx9 with rfl | rfl
            · first
                | omega
                | exact mo_add_l (s := mo_uz (mo_uz s 0 0) 0 0) (by first | omega | (simp only [mo_uz_1, mo_uz_2, mo_uf_1, mo_uf_2, mo_uf_22, mo_ug_1, mo_ug_2, mo_ug_22, mo_len, Nat.reduceEqDiff, false_and, true_and, and_true, and_false, if_false, if_true, reduceIte, ite_true, ite_false, ne_eq, not_true_eq_false, not_false_eq_true] at *; omega)) ha hl9 (fun m k hm => hok (by first | omega | (simp only [mo_uz_1, mo_uz_2, mo_uf_1, mo_uf_2, mo_uf_22, mo_ug_1, mo_ug_2, mo_ug_22, mo_len, Nat.reduceEqDiff, false_and, true_and, and_true, and_false, if_false, if_true, reduceIte, ite_true, ite_false, ne_eq, not_true_eq_false, not_false_eq_true] at *; omega)) (by first | omega | (simp only [mo_uz_1, mo_uz_2, mo_uf_1, mo_uf_2, mo_uf_22, mo_ug_1, mo_ug_2, mo_ug_22, mo_len, Nat.reduceEqDiff, false_and, true_and, and_true, and_false, if_false, if_true, reduceIte, ite_true, ite_false, ne_eq, not_true_eq_false, not_false_eq_true] at *; omega)) m k hm) 0 hl9.1 (by decide) _ (by first | exact Or.inl ⟨rfl, by assumption, fun j q1 q2 => absurd q2 (by omega)⟩ | exact Or.inr ⟨rfl, fun z => absurd z.1 (by first | omega | (simp only [mo_uz_1, mo_uz_2, mo_uf_1, mo_uf_2, mo_uf_22, mo_ug_1, mo_ug_2, mo_ug_22, mo_len, Nat.reduceEqDiff, false_and, true_and, and_true, and_false, if_false, if_true, reduceIte, ite_true, ite_false, ne_eq, not_true_eq_false, not_false_eq_true] at *; omega))⟩)
            · first
                | omega
                | exact mo_add_l (s := mo_uz (mo_uz s 0 0) 0 0) (by first | omega | (simp only [mo_uz_1, mo_uz_2, mo_uf_1, mo_uf_2, mo_uf_22, mo_ug_1, mo_ug_2, mo_ug_22, mo_len, Nat.reduceEqDiff, false_and, true_and, and_true, and_false, if_false, if_true, reduceIte, ite_true, ite_false, ne_eq, not_true_eq_false, not_false_eq_true] at *; omega)) ha hl9 (fun m k hm => hok (by first | omega | (simp only [mo_uz_1, mo_uz_2, mo_uf_1, mo_uf_2, mo_uf_22, mo_ug_1, mo_ug_2, mo_ug_22, mo_len, Nat.reduceEqDiff, false_and, true_and, and_true, and_false, if_false, if_true, reduceIte, ite_true, ite_false, ne_eq, not_true_eq_false, not_false_eq_true] at *; omega)) (by first | omega | (simp only [mo_uz_1, mo_uz_2, mo_uf_1, mo_uf_2, mo_uf_22, mo_ug_1, mo_ug_2, mo_ug_22, mo_len, Nat.reduceEqDiff, false_and, true_and, and_true, and_false, if_false, if_true, reduceIte, ite_true, ite_false, ne_eq, not_true_eq_false, not_false_eq_true] at *; omega)) m k hm) 0 hl9.1 (by decide) _ (by first | exact Or.inl ⟨rfl, by assumption, fun j q1 q2 => absurd q2 (by omega)⟩ | exact Or.inr ⟨rfl, fun z => absurd z.1 (by first | omega | (simp only [mo_uz_1, mo_uz_2, mo_uf_1, mo_uf_2, mo_uf_22, mo_ug_1, mo_ug_2, mo_ug_22, mo_len, Nat.reduceEqDiff, false_and, true_and, and_true, and_false, if_false, if_true, reduceIte, ite_true, ite_false, ne_eq, not_true_eq_false, not_false_eq_true] at *; omega))⟩)
          · refine mw_iconst dM_add_81 ?_
            refine mw_goto (tgt := 86) dM_add_82 (by decide) ?_
            refine mw_istore dM_add_86 (by decide) rfl ?_
            refine mw_iconst dM_add_88 ?_
            refine mw_istore dM_add_89 (by decide) rfl ?_
            have hl9 := hl (by omega) (by first | omega | (simp only [mo_uz_1, mo_uz_2, mo_uf_1, mo_uf_2, mo_uf_22, mo_ug_1, mo_ug_2, mo_ug_22, mo_len, Nat.reduceEqDiff, false_and, true_and, and_true, and_false, if_false, if_true, reduceIte, ite_true, ite_false, ne_eq, not_true_eq_false, not_false_eq_true] at *; omega)) x hx
            have hx9 : x = 0 ∨ x = 1 := hx
            rcases hx9 with rfl | rfl
            · first
                | omega
                | exact mo_add_l (s := mo_uz (mo_uz s 0 0) 0 0) (by first | omega | (simp only [mo_uz_1, mo_uz_2, mo_uf_1, mo_uf_2, mo_uf_22, mo_ug_1, mo_ug_2, mo_ug_22, mo_len, Nat.reduceEqDiff, false_and, true_and, and_true, and_false, if_false, if_true, reduceIte, ite_true, ite_false, ne_eq, not_true_eq_false, not_false_eq_true] at *; omega)) ha hl9 (fun m k hm => hok (by first | omega | (simp only [mo_uz_1, mo_uz_2, mo_uf_1, mo_uf_2, mo_uf_22, mo_ug_1, mo_ug_2, mo_ug_22, mo_len, Nat.reduceEqDiff, false_and, true_and, and_true, and_false, if_false, if_true, reduceIte, ite_true, ite_false, ne_eq, not_true_eq_false, not_false_eq_true] at *; omega)) (by first | omega | (simp only [mo_uz_1, mo_uz_2, mo_uf_1, mo_uf_2, mo_uf_22, mo_ug_1, mo_ug_2, mo_ug_22, mo_len, Nat.reduceEqDiff, false_and, true_and, and_true, and_false, if_false, if_true, reduceIte, ite_true, ite_false, ne_eq, not_true_eq_false, not_false_eq_true] at *; omega)) m k hm) 0 hl9.1 (by decide) _ (by first | exact Or.inl ⟨rfl, by assumption, fun j q1 q2 => absurd q2 (by omega)⟩ | exact Or.inr ⟨rfl, fun z => absurd z.1 (by first | omega | (simp only [mo_uz_1, mo_uz_2, mo_uf_1, mo_uf_2, mo_uf_22, mo_ug_1, mo_ug_2, mo_ug_22, mo_len, Nat.reduceEqDiff, false_and, true_and, and_true, and_false, if_false, if_true, reduceIte, ite_true, ite_false, ne_eq, not_true_eq_false, not_false_eq_true] at *; omega))⟩)
            · first
                | omega
                | exact mo_add_l (s := mo_uz (mo_uz s 0 0) 0 0) (by first | omega | (simp only [mo_uz_1, mo_uz_2, mo_uf_1, mo_uf_2, mo_uf_22, mo_ug_1, mo_ug_2, mo_ug_22, mo_len, Nat.reduceEqDiff, false_and, true_and, and_true, and_false, if_false, if_true, reduceIte, ite_true, ite_false, ne_eq, not_true_eq_false, not_false_eq_true] at *; omega)) ha hl9 (fun m k hm => hok (by first | omega | (simp only [mo_uz_1, mo_uz_2, mo_uf_1, mo_uf_2, mo_uf_22, mo_ug_1, mo_ug_2, mo_ug_22, mo_len, Nat.reduceEqDiff, false_and, true_and, and_true, and_false, if_false, if_true, reduceIte, ite_true, ite_false, ne_eq, not_true_eq_false, not_false_eq_true] at *; omega)) (by first | omega | (simp only [mo_uz_1, mo_uz_2, mo_uf_1, mo_uf_2, mo_uf_22, mo_ug_1, mo_ug_2, mo_ug_22, mo_len, Nat.reduceEqDiff, false_and, true_and, and_true, and_false, if_false, if_true, reduceIte, ite_true, ite_false, ne_eq, not_true_eq_false, not_false_eq_true] at *; omega)) m k hm) 0 hl9.1 (by decide) _ (by first | exact Or.inl ⟨rfl, by assumption, fun j q1 q2 => absurd q2 (by omega)⟩ | exact Or.inr ⟨rfl, fun z => absurd z.1 (by first | omega | (simp only [mo_uz_1, mo_uz_2, mo_uf_1, mo_uf_2, mo_uf_22, mo_ug_1, mo_ug_2, mo_ug_22, mo_len, Nat.reduceEqDiff, false_and, true_and, and_true, and_false, if_false, if_true, reduceIte, ite_true, ite_false, ne_eq, not_true_eq_false, not_false_eq_true] at *; omega))⟩)
        · refine mw_iconst dM_add_62 ?_
          refine mw_goto (tgt := 67) dM_add_63 (by decide) ?_
          refine mw_iadd dM_add_67 ?_
          refine mw_istore dM_add_68 (by decide) rfl ?_
          refine mw_aload_n dM_add_70 rfl ?_
          refine mw_get dM_add_71 fM_58 rfl ?_
          refine mw_iload dM_add_74 rfl ?_
          refine mw_iald dM_add_76 rfl rfl (by first | omega | (simp only [mo_uz_1, mo_uz_2, mo_uf_1, mo_uf_2, mo_uf_22, mo_ug_1, mo_ug_2, mo_ug_22, mo_len, Nat.reduceEqDiff, false_and, true_and, and_true, and_false, if_false, if_true, reduceIte, ite_true, ite_false, ne_eq, not_true_eq_false, not_false_eq_true] at *; omega)) (by first | omega | (simp only [mo_uz_1, mo_uz_2, mo_uf_1, mo_uf_2, mo_uf_22, mo_ug_1, mo_ug_2, mo_ug_22, mo_len, Nat.reduceEqDiff, false_and, true_and, and_true, and_false, if_false, if_true, reduceIte, ite_true, ite_false, ne_eq, not_true_eq_false, not_false_eq_true] at *; omega)) (fun hv76 => ?_)
          refine mw_iconst dM_add_77 ?_
          refine mw_icmp_ge (tgt := 85) dM_add_78 (by decide) (by first | omega | (simp only [mo_uz_1, mo_uz_2, mo_uf_1, mo_uf_2, mo_uf_22, mo_ug_1, mo_ug_2, mo_ug_22, mo_len, Nat.reduceEqDiff, false_and, true_and, and_true, and_false, if_false, if_true, reduceIte, ite_true, ite_false, ne_eq, not_true_eq_false, not_false_eq_true] at *; omega)) (by first | omega | (simp only [mo_uz_1, mo_uz_2, mo_uf_1, mo_uf_2, mo_uf_22, mo_ug_1, mo_ug_2, mo_ug_22, mo_len, Nat.reduceEqDiff, false_and, true_and, and_true, and_false, if_false, if_true, reduceIte, ite_true, ite_false, ne_eq, not_true_eq_false, not_false_eq_true] at *; omega)) (fun hb78 => ?_) (fun hb78 => ?_)
          · refine mw_iconst dM_add_85 ?_
            refine mw_istore dM_add_86 (by decide) rfl ?_
            refine mw_iconst dM_add_88 ?_
            refine mw_istore dM_add_89 (by decide) rfl ?_
            have hl9 := hl (by omega) (by first | omega | (simp only [mo_uz_1, mo_uz_2, mo_uf_1, mo_uf_2, mo_uf_22, mo_ug_1, mo_ug_2, mo_ug_22, mo_len, Nat.reduceEqDiff, false_and, true_and, and_true, and_false, if_false, if_true, reduceIte, ite_true, ite_false, ne_eq, not_true_eq_false, not_false_eq_true] at *; omega)) x hx
            have hx9 : x = 0 ∨ x = 1 := hx
            rcases hx9 with rfl | rfl
            · first
                | omega
                | exact mo_add_l (s := mo_uz (mo_uz s 0 0) 0 0) (by first | omega | (simp only [mo_uz_1, mo_uz_2, mo_uf_1, mo_uf_2, mo_uf_22, mo_ug_1, mo_ug_2, mo_ug_22, mo_len, Nat.reduceEqDiff, false_and, true_and, and_true, and_false, if_false, if_true, reduceIte, ite_true, ite_false, ne_eq, not_true_eq_false, not_false_eq_true] at *; omega)) ha hl9 (fun m k hm => hok (by first | omega | (simp only [mo_uz_1, mo_uz_2, mo_uf_1, mo_uf_2, mo_uf_22, mo_ug_1, mo_ug_2, mo_ug_22, mo_len, Nat.reduceEqDiff, false_and, true_and, and_true, and_false, if_false, if_true, reduceIte, ite_true, ite_false, ne_eq, not_true_eq_false, not_false_eq_true] at *; omega)) (by first | omega | (simp only [mo_uz_1, mo_uz_2, mo_uf_1, mo_uf_2, mo_uf_22, mo_ug_1, mo_ug_2, mo_ug_22, mo_len, Nat.reduceEqDiff, false_and, true_and, and_true, and_false, if_false, if_true, reduceIte, ite_true, ite_false, ne_eq, not_true_eq_false, not_false_eq_true] at *; omega)) m k hm) 0 hl9.1 (by decide) _ (by first | exact Or.inl ⟨rfl, by assumption, fun j q1 q2 => absurd q2 (by omega)⟩ | exact Or.inr ⟨rfl, fun z => absurd z.1 (by first | omega | (simp only [mo_uz_1, mo_uz_2, mo_uf_1, mo_uf_2, mo_uf_22, mo_ug_1, mo_ug_2, mo_ug_22, mo_len, Nat.reduceEqDiff, false_and, true_and, and_true, and_false, if_false, if_true, reduceIte, ite_true, ite_false, ne_eq, not_true_eq_false, not_false_eq_true] at *; omega))⟩)
            · first
                | omega
                | exact mo_add_l (s := mo_uz (mo_uz s 0 0) 0 0) (by first | omega | (simp only [mo_uz_1, mo_uz_2, mo_uf_1, mo_uf_2, mo_uf_22, mo_ug_1, mo_ug_2, mo_ug_22, mo_len, Nat.reduceEqDiff, false_and, true_and, and_true, and_false, if_false, if_true, reduceIte, ite_true, ite_false, ne_eq, not_true_eq_false, not_false_eq_true] at *; omega)) ha hl9 (fun m k hm => hok (by first | omega | (simp only [mo_uz_1, mo_uz_2, mo_uf_1, mo_uf_2, mo_uf_22, mo_ug_1, mo_ug_2, mo_ug_22, mo_len, Nat.reduceEqDiff, false_and, true_and, and_true, and_false, if_false, if_true, reduceIte, ite_true, ite_false, ne_eq, not_true_eq_false, not_false_eq_true] at *; omega)) (by first | omega | (simp only [mo_uz_1, mo_uz_2, mo_uf_1, mo_uf_2, mo_uf_22, mo_ug_1, mo_ug_2, mo_ug_22, mo_len, Nat.reduceEqDiff, false_and, true_and, and_true, and_false, if_false, if_true, reduceIte, ite_true, ite_false, ne_eq, not_true_eq_false, not_false_eq_true] at *; omega)) m k hm) 0 hl9.1 (by decide) _ (by first | exact Or.inl ⟨rfl, by assumption, fun j q1 q2 => absurd q2 (by omega)⟩ | exact Or.inr ⟨rfl, fun z => absurd z.1 (by first | omega | (simp only [mo_uz_1, mo_uz_2, mo_uf_1, mo_uf_2, mo_uf_22, mo_ug_1, mo_ug_2, mo_ug_22, mo_len, Nat.reduceEqDiff, false_and, true_and, and_true, and_false, if_false, if_true, reduceIte, ite_true, ite_false, ne_eq, not_true_eq_false, not_false_eq_true] at *; omega))⟩)
          · refine mw_iconst dM_add_81 ?_
            refine mw_goto (tgt := 86) dM_add_82 (by decide) ?_
            refine mw_istore dM_add_86 (by decide) rfl ?_
            refine mw_iconst dM_add_88 ?_
            refine mw_istore dM_add_89 (by decide) rfl ?_
            have hl9 := hl (by omega) (by first | omega | (simp only [mo_uz_1, mo_uz_2, mo_uf_1, mo_uf_2, mo_uf_22, mo_ug_1, mo_ug_2, mo_ug_22, mo_len, Nat.reduceEqDiff, false_and, true_and, and_true, and_false, if_false, if_true, reduceIte, ite_true, ite_false, ne_eq, not_true_eq_false, not_false_eq_true] at *; omega)) x hx
            have hx9 : x = 0 ∨ x = 1 := hx
            rcases hx9 with rfl | rfl
            · first
                | omega
                | exact mo_add_l (s := mo_uz (mo_uz s 0 0) 0 0) (by first | omega | (simp only [mo_uz_1, mo_uz_2, mo_uf_1, mo_uf_2, mo_uf_22, mo_ug_1, mo_ug_2, mo_ug_22, mo_len, Nat.reduceEqDiff, false_and, true_and, and_true, and_false, if_false, if_true, reduceIte, ite_true, ite_false, ne_eq, not_true_eq_false, not_false_eq_true] at *; omega)) ha hl9 (fun m k hm => hok (by first | omega | (simp only [mo_uz_1, mo_uz_2, mo_uf_1, mo_uf_2, mo_uf_22, mo_ug_1, mo_ug_2, mo_ug_22, mo_len, Nat.reduceEqDiff, false_and, true_and, and_true, and_false, if_false, if_true, reduceIte, ite_true, ite_false, ne_eq, not_true_eq_false, not_false_eq_true] at *; omega)) (by first | omega | (simp only [mo_uz_1, mo_uz_2, mo_uf_1, mo_uf_2, mo_uf_22, mo_ug_1, mo_ug_2, mo_ug_22, mo_len, Nat.reduceEqDiff, false_and, true_and, and_true, and_false, if_false, if_true, reduceIte, ite_true, ite_false, ne_eq, not_true_eq_false, not_false_eq_true] at *; omega)) m k hm) 0 hl9.1 (by decide) _ (by first | exact Or.inl ⟨rfl, by assumption, fun j q1 q2 => absurd q2 (by omega)⟩ | exact Or.inr ⟨rfl, fun z => absurd z.1 (by first | omega | (simp only [mo_uz_1, mo_uz_2, mo_uf_1, mo_uf_2, mo_uf_22, mo_ug_1, mo_ug_2, mo_ug_22, mo_len, Nat.reduceEqDiff, false_and, true_and, and_true, and_false, if_false, if_true, reduceIte, ite_true, ite_false, ne_eq, not_true_eq_false, not_false_eq_true] at *; omega))⟩)
            · first
                | omega
                | exact mo_add_l (s := mo_uz (mo_uz s 0 0) 0 0) (by first | omega | (simp only [mo_uz_1, mo_uz_2, mo_uf_1, mo_uf_2, mo_uf_22, mo_ug_1, mo_ug_2, mo_ug_22, mo_len, Nat.reduceEqDiff, false_and, true_and, and_true, and_false, if_false, if_true, reduceIte, ite_true, ite_false, ne_eq, not_true_eq_false, not_false_eq_true] at *; omega)) ha hl9 (fun m k hm => hok (by first | omega | (simp only [mo_uz_1, mo_uz_2, mo_uf_1, mo_uf_2, mo_uf_22, mo_ug_1, mo_ug_2, mo_ug_22, mo_len, Nat.reduceEqDiff, false_and, true_and, and_true, and_false, if_false, if_true, reduceIte, ite_true, ite_false, ne_eq, not_true_eq_false, not_false_eq_true] at *; omega)) (by first | omega | (simp only [mo_uz_1, mo_uz_2, mo_uf_1, mo_uf_2, mo_uf_22, mo_ug_1, mo_ug_2, mo_ug_22, mo_len, Nat.reduceEqDiff, false_and, true_and, and_true, and_false, if_false, if_true, reduceIte, ite_true, ite_false, ne_eq, not_true_eq_false, not_false_eq_true] at *; omega)) m k hm) 0 hl9.1 (by decide) _ (by first | exact Or.inl ⟨rfl, by assumption, fun j q1 q2 => absurd q2 (by omega)⟩ | exact Or.inr ⟨rfl, fun z => absurd z.1 (by first | omega | (simp only [mo_uz_1, mo_uz_2, mo_uf_1, mo_uf_2, mo_uf_22, mo_ug_1, mo_ug_2, mo_ug_22, mo_len, Nat.reduceEqDiff, false_and, true_and, and_true, and_false, if_false, if_true, reduceIte, ite_true, ite_false, ne_eq, not_true_eq_false, not_false_eq_true] at *; omega))⟩)
      · refine mw_iconst dM_add_41 ?_
        refine mw_goto (tgt := 46) dM_add_42 (by decide) ?_
        refine mw_iconst dM_add_46 ?_
        refine mw_callV2 dM_add_47 cM_110 (Nat.le_of_ble_eq_true rfl) (Nat.le_of_ble_eq_true rfl) rfl ?_
        refine mo_fails1 (by decide) ?_
        refine mw_if_eq (tgt := 55) dM_add_50 (by decide) (by first | omega | (simp only [mo_uz_1, mo_uz_2, mo_uf_1, mo_uf_2, mo_uf_22, mo_ug_1, mo_ug_2, mo_ug_22, mo_len, Nat.reduceEqDiff, false_and, true_and, and_true, and_false, if_false, if_true, reduceIte, ite_true, ite_false, ne_eq, not_true_eq_false, not_false_eq_true] at *; omega)) (fun hb50 => absurd hb50 (by decide)) (fun _ => ?_)
        refine mw_iconst dM_add_53 ?_
        refine mw_zret dM_add_54 rfl (by first | omega | (simp only [mo_uz_1, mo_uz_2, mo_uf_1, mo_uf_2, mo_uf_22, mo_ug_1, mo_ug_2, mo_ug_22, mo_len, Nat.reduceEqDiff, false_and, true_and, and_true, and_false, if_false, if_true, reduceIte, ite_true, ite_false, ne_eq, not_true_eq_false, not_false_eq_true] at *; omega)) ?_
        first | exact hbad (by first | omega | (simp only [mo_uz_1, mo_uz_2, mo_uf_1, mo_uf_2, mo_uf_22, mo_ug_1, mo_ug_2, mo_ug_22, mo_len, Nat.reduceEqDiff, false_and, true_and, and_true, and_false, if_false, if_true, reduceIte, ite_true, ite_false, ne_eq, not_true_eq_false, not_false_eq_true] at *; omega)) | exact hst (by first | omega | (simp only [mo_uz_1, mo_uz_2, mo_uf_1, mo_uf_2, mo_uf_22, mo_ug_1, mo_ug_2, mo_ug_22, mo_len, Nat.reduceEqDiff, false_and, true_and, and_true, and_false, if_false, if_true, reduceIte, ite_true, ite_false, ne_eq, not_true_eq_false, not_false_eq_true] at *; omega)) (by first | omega | (simp only [mo_uz_1, mo_uz_2, mo_uf_1, mo_uf_2, mo_uf_22, mo_ug_1, mo_ug_2, mo_ug_22, mo_len, Nat.reduceEqDiff, false_and, true_and, and_true, and_false, if_false, if_true, reduceIte, ite_true, ite_false, ne_eq, not_true_eq_false, not_false_eq_true] at *; omega))
    · refine mw_if_ne (tgt := 23) dM_add_16 (by decide) (by first | omega | (simp only [mo_uz_1, mo_uz_2, mo_uf_1, mo_uf_2, mo_uf_22, mo_ug_1, mo_ug_2, mo_ug_22, mo_len, Nat.reduceEqDiff, false_and, true_and, and_true, and_false, if_false, if_true, reduceIte, ite_true, ite_false, ne_eq, not_true_eq_false, not_false_eq_true] at *; omega)) (fun hb16 => absurd hb16 (by decide)) (fun _ => ?_)
      refine mw_iconst dM_add_19 ?_
      refine mw_goto (tgt := 24) dM_add_20 (by decide) ?_
      refine mw_iconst dM_add_24 ?_
      refine mw_callV2 dM_add_25 cM_110 (Nat.le_of_ble_eq_true rfl) (Nat.le_of_ble_eq_true rfl) rfl ?_
      refine mo_fails1 (by decide) ?_
      refine mw_if_ne (tgt := 53) dM_add_28 (by decide) (by first | omega | (simp only [mo_uz_1, mo_uz_2, mo_uf_1, mo_uf_2, mo_uf_22, mo_ug_1, mo_ug_2, mo_ug_22, mo_len, Nat.reduceEqDiff, false_and, true_and, and_true, and_false, if_false, if_true, reduceIte, ite_true, ite_false, ne_eq, not_true_eq_false, not_false_eq_true] at *; omega)) (fun _ => ?_) (fun hb28 => absurd hb28 (by decide))
      refine mw_iconst dM_add_53 ?_
      refine mw_zret dM_add_54 rfl (by first | omega | (simp only [mo_uz_1, mo_uz_2, mo_uf_1, mo_uf_2, mo_uf_22, mo_ug_1, mo_ug_2, mo_ug_22, mo_len, Nat.reduceEqDiff, false_and, true_and, and_true, and_false, if_false, if_true, reduceIte, ite_true, ite_false, ne_eq, not_true_eq_false, not_false_eq_true] at *; omega)) ?_
      first | exact hbad (by first | omega | (simp only [mo_uz_1, mo_uz_2, mo_uf_1, mo_uf_2, mo_uf_22, mo_ug_1, mo_ug_2, mo_ug_22, mo_len, Nat.reduceEqDiff, false_and, true_and, and_true, and_false, if_false, if_true, reduceIte, ite_true, ite_false, ne_eq, not_true_eq_false, not_false_eq_true] at *; omega)) | exact hst (by first | omega | (simp only [mo_uz_1, mo_uz_2, mo_uf_1, mo_uf_2, mo_uf_22, mo_ug_1, mo_ug_2, mo_ug_22, mo_len, Nat.reduceEqDiff, false_and, true_and, and_true, and_false, if_false, if_true, reduceIte, ite_true, ite_false, ne_eq, not_true_eq_false, not_false_eq_true] at *; omega)) (by first | omega | (simp only [mo_uz_1, mo_uz_2, mo_uf_1, mo_uf_2, mo_uf_22, mo_ug_1, mo_ug_2, mo_ug_22, mo_len, Nat.reduceEqDiff, false_and, true_and, and_true, and_false, if_false, if_true, reduceIte, ite_true, ite_false, ne_eq, not_true_eq_false, not_false_eq_true] at *; omega))

def mo_bJ (w : Int64) (n : Int) : Prop := (w >>> ((iI n).toInt64 &&& 63)) &&& 1 = 1
def mo_bI (w n : Int) : Prop := (iI w >>> ((iI n >>> (iI 3 &&& 31)) &&& 31)) &&& iI 1 = iI 1
def mo_adm (s : mo_S) (l n : Int) : Prop := ¬ mo_bJ (s.2.2 11 l) n ∧ (mo_bJ (s.2.2 10 l) n ∨ mo_bI (s.2.1 9 l) n)
theorem mo_lcmp (x y : Int64) : lg_cmp x y = 0 ↔ x = y := by
  unfold lg_cmp
  constructor
  · intro h
    split at h
    · exact absurd h (by decide)
    · split at h
      · assumption
      · exact absurd h (by decide)
  · intro h
    subst h
    rw [if_neg Int64.lt_irrefl, if_pos rfl]
theorem mo_admits {l n : Int} (hl : 0 ≤ l ∧ l ≤ 40) (hn : iB n) (h1 : mo_adm s l n → Q (.inl (some (.int (iI 1)))) s) (h0 : ¬ mo_adm s l n → Q (.inl (some (.int (iI 0)))) s) : mw G b ad mM_admits d Q 0 [some (.ref b), some (.int (iI l)), some (.int (iI n))] [] s kc ks := by
  refine mw_aload_n dM_admits_0 rfl ?_
  refine mw_get dM_admits_1 fM_42 rfl ?_
  refine mw_iload_n dM_admits_4 rfl ?_
  refine mw_lald dM_admits_5 rfl rfl (by first | omega | (simp only [mo_uz_1, mo_uz_2, mo_uf_1, mo_uf_2, mo_uf_22, mo_ug_1, mo_ug_2, mo_ug_22, mo_len, Nat.reduceEqDiff, false_and, true_and, and_true, and_false, if_false, if_true, reduceIte, ite_true, ite_false, ne_eq, not_true_eq_false, not_false_eq_true] at *; omega)) (by first | omega | (simp only [mo_uz_1, mo_uz_2, mo_uf_1, mo_uf_2, mo_uf_22, mo_ug_1, mo_ug_2, mo_ug_22, mo_len, Nat.reduceEqDiff, false_and, true_and, and_true, and_false, if_false, if_true, reduceIte, ite_true, ite_false, ne_eq, not_true_eq_false, not_false_eq_true] at *; omega)) ?_
  refine mw_iload_n dM_admits_6 rfl ?_
  refine mw_lshr dM_admits_7 ?_
  refine mw_lconst (v := 1) dM_admits_8 (by decide) ?_
  refine mw_land dM_admits_9 ?_
  refine mw_lconst (v := 1) dM_admits_10 (by decide) ?_
  refine mw_lcmp dM_admits_11 ?_
  refine mw_rif_ne (tgt := 17) dM_admits_12 (by decide) (fun hb12 => ?_) (fun hb12 => ?_)
  · refine mw_aload_n dM_admits_17 rfl ?_
    refine mw_get dM_admits_18 fM_38 rfl ?_
    refine mw_iload_n dM_admits_21 rfl ?_
    refine mw_lald dM_admits_22 rfl rfl (by first | omega | (simp only [mo_uz_1, mo_uz_2, mo_uf_1, mo_uf_2, mo_uf_22, mo_ug_1, mo_ug_2, mo_ug_22, mo_len, Nat.reduceEqDiff, false_and, true_and, and_true, and_false, if_false, if_true, reduceIte, ite_true, ite_false, ne_eq, not_true_eq_false, not_false_eq_true] at *; omega)) (by first | omega | (simp only [mo_uz_1, mo_uz_2, mo_uf_1, mo_uf_2, mo_uf_22, mo_ug_1, mo_ug_2, mo_ug_22, mo_len, Nat.reduceEqDiff, false_and, true_and, and_true, and_false, if_false, if_true, reduceIte, ite_true, ite_false, ne_eq, not_true_eq_false, not_false_eq_true] at *; omega)) ?_
    refine mw_iload_n dM_admits_23 rfl ?_
    refine mw_lshr dM_admits_24 ?_
    refine mw_lconst (v := 1) dM_admits_25 (by decide) ?_
    refine mw_land dM_admits_26 ?_
    refine mw_lconst (v := 1) dM_admits_27 (by decide) ?_
    refine mw_lcmp dM_admits_28 ?_
    refine mw_rif_eq (tgt := 48) dM_admits_29 (by decide) (fun hb29 => ?_) (fun hb29 => ?_)
    · refine mw_iconst dM_admits_48 ?_
      refine mw_goto (tgt := 53) dM_admits_49 (by decide) ?_
      refine mw_zret dM_admits_53 rfl (by first | omega | (simp only [mo_uz_1, mo_uz_2, mo_uf_1, mo_uf_2, mo_uf_22, mo_ug_1, mo_ug_2, mo_ug_22, mo_len, Nat.reduceEqDiff, false_and, true_and, and_true, and_false, if_false, if_true, reduceIte, ite_true, ite_false, ne_eq, not_true_eq_false, not_false_eq_true] at *; omega)) ?_
      first
        | exact h1 ⟨fun z => hb12 ((mo_lcmp _ _).mpr z), Or.inl ((mo_lcmp _ _).mp hb29)⟩
        | exact h1 ⟨fun z => hb12 ((mo_lcmp _ _).mpr z), Or.inr hb45⟩
        | exact h0 (fun z => z.2.elim (fun q => hb29 ((mo_lcmp _ _).mpr q)) hb45)
    · refine mw_aload_n dM_admits_32 rfl ?_
      refine mw_get dM_admits_33 fM_35 rfl ?_
      refine mw_iload_n dM_admits_36 rfl ?_
      refine mw_iald dM_admits_37 rfl rfl (by first | omega | (simp only [mo_uz_1, mo_uz_2, mo_uf_1, mo_uf_2, mo_uf_22, mo_ug_1, mo_ug_2, mo_ug_22, mo_len, Nat.reduceEqDiff, false_and, true_and, and_true, and_false, if_false, if_true, reduceIte, ite_true, ite_false, ne_eq, not_true_eq_false, not_false_eq_true] at *; omega)) (by first | omega | (simp only [mo_uz_1, mo_uz_2, mo_uf_1, mo_uf_2, mo_uf_22, mo_ug_1, mo_ug_2, mo_ug_22, mo_len, Nat.reduceEqDiff, false_and, true_and, and_true, and_false, if_false, if_true, reduceIte, ite_true, ite_false, ne_eq, not_true_eq_false, not_false_eq_true] at *; omega)) (fun hv37 => ?_)
      refine mw_iload_n dM_admits_38 rfl ?_
      refine mw_iconst dM_admits_39 ?_
      refine mw_ishr dM_admits_40 ?_
      refine mw_ishr dM_admits_41 ?_
      refine mw_iconst dM_admits_42 ?_
      refine mw_iand dM_admits_43 ?_
      refine mw_iconst dM_admits_44 ?_
      refine mw_ricmp_ne (tgt := 52) dM_admits_45 (by decide) (fun hb45 => ?_) (fun hb45 => ?_)
      · refine mw_iconst dM_admits_52 ?_
        refine mw_zret dM_admits_53 rfl (by first | omega | (simp only [mo_uz_1, mo_uz_2, mo_uf_1, mo_uf_2, mo_uf_22, mo_ug_1, mo_ug_2, mo_ug_22, mo_len, Nat.reduceEqDiff, false_and, true_and, and_true, and_false, if_false, if_true, reduceIte, ite_true, ite_false, ne_eq, not_true_eq_false, not_false_eq_true] at *; omega)) ?_
        first
          | exact h1 ⟨fun z => hb12 ((mo_lcmp _ _).mpr z), Or.inl ((mo_lcmp _ _).mp hb29)⟩
          | exact h1 ⟨fun z => hb12 ((mo_lcmp _ _).mpr z), Or.inr hb45⟩
          | exact h0 (fun z => z.2.elim (fun q => hb29 ((mo_lcmp _ _).mpr q)) hb45)
      · refine mw_iconst dM_admits_48 ?_
        refine mw_goto (tgt := 53) dM_admits_49 (by decide) ?_
        refine mw_zret dM_admits_53 rfl (by first | omega | (simp only [mo_uz_1, mo_uz_2, mo_uf_1, mo_uf_2, mo_uf_22, mo_ug_1, mo_ug_2, mo_ug_22, mo_len, Nat.reduceEqDiff, false_and, true_and, and_true, and_false, if_false, if_true, reduceIte, ite_true, ite_false, ne_eq, not_true_eq_false, not_false_eq_true] at *; omega)) ?_
        first
          | exact h1 ⟨fun z => hb12 ((mo_lcmp _ _).mpr z), Or.inl ((mo_lcmp _ _).mp hb29)⟩
          | exact h1 ⟨fun z => hb12 ((mo_lcmp _ _).mpr z), Or.inr hb45⟩
          | exact h0 (fun z => z.2.elim (fun q => hb29 ((mo_lcmp _ _).mpr q)) hb45)
  · refine mw_iconst dM_admits_15 ?_
    refine mw_zret dM_admits_16 rfl (by first | omega | (simp only [mo_uz_1, mo_uz_2, mo_uf_1, mo_uf_2, mo_uf_22, mo_ug_1, mo_ug_2, mo_ug_22, mo_len, Nat.reduceEqDiff, false_and, true_and, and_true, and_false, if_false, if_true, reduceIte, ite_true, ite_false, ne_eq, not_true_eq_false, not_false_eq_true] at *; omega)) ?_
    exact h0 (fun z => z.1 ((mo_lcmp _ _).mp hb12))

/-- i ints of the array k from the place f on stand from the place t on too -/
def mo_cp (s : mo_S) (k : Nat) (t f i : Int) : mo_S := (s.1, fun k' q => if k' = k ∧ t ≤ q ∧ q < t + i then s.2.1 k (q - t + f) else s.2.1 k' q, s.2.2)
theorem mo_cp_0 (s : mo_S) (k : Nat) (t f : Int) : mo_cp s k t f 0 = s := by
  obtain ⟨z, g, h⟩ := s
  show (z, _, h) = (z, g, h)
  congr 2
  funext k' q
  exact if_neg (fun e => absurd e.2 (by omega))
theorem mo_cp_s {s : mo_S} {k : Nat} {t f i : Int} (h0 : 0 ≤ i) (hd : f + i < t) : mo_uf (mo_cp s k t f i) k (t + i) ((mo_cp s k t f i).2.1 k (f + i)) = mo_cp s k t f (i + 1) := by
  obtain ⟨z, g, h⟩ := s
  show (z, _, h) = (z, _, h)
  congr 2
  funext k' q
  have e1 : (mo_cp (z, g, h) k t f i).2.1 k (f + i) = g k (f + i) := if_neg (fun e => absurd e.2 (by omega))
  show (if k' = k ∧ q = t + i then (mo_cp (z, g, h) k t f i).2.1 k (f + i) else if k' = k ∧ t ≤ q ∧ q < t + i then g k (q - t + f) else g k' q) = if k' = k ∧ t ≤ q ∧ q < t + (i + 1) then g k (q - t + f) else g k' q
  rw [e1]
  by_cases ek : k' = k
  · subst ek
    by_cases eq : q = t + i
    · subst eq
      rw [if_pos ⟨rfl, rfl⟩, if_pos ⟨rfl, by omega, by omega⟩]
      congr 1
      omega
    · rw [if_neg (fun e => eq e.2)]
      by_cases er : t ≤ q ∧ q < t + i
      · rw [if_pos ⟨rfl, er⟩, if_pos ⟨rfl, er.1, by omega⟩]
      · rw [if_neg (fun e => er e.2), if_neg (fun e => er ⟨e.2.1, by omega⟩)]
  · rw [if_neg (fun e => ek e.1), if_neg (fun e => ek e.1), if_neg (fun e => ek e.1)]
theorem mo_copy_l2 {f t : Int} (hf : 0 ≤ f ∧ f ≤ 9) (ht : 10 ≤ t ∧ t ≤ 173) (hq : Q (.inl none) (mo_cp s 4 (8 * t) (8 * f) 8)) : ∀ i : Int, i ≤ 8 → 0 ≤ i → mw G b ad mM_copySheet d Q 62 [some (.ref b), some (.int (iI f)), some (.int (iI t)), some (.int (iI i))] [] (mo_cp s 4 (8 * t) (8 * f) i) kc ks := by
  refine il_up 8 (fun i hi ih h0 => ?_)
  refine mw_iload_n dM_copySheet_62 rfl ?_
  refine mw_bipush dM_copySheet_63 (by decide +kernel) ?_
  refine mw_icmp_ge (tgt := 96) dM_copySheet_65 (by decide) (by first | omega | (simp only [mo_uz_1, mo_uz_2, mo_uf_1, mo_uf_2, mo_uf_22, mo_ug_1, mo_ug_2, mo_ug_22, mo_len, Nat.reduceEqDiff, false_and, true_and, and_true, and_false, if_false, if_true, reduceIte, ite_true, ite_false, ne_eq, not_true_eq_false, not_false_eq_true] at *; omega)) (by first | omega | (simp only [mo_uz_1, mo_uz_2, mo_uf_1, mo_uf_2, mo_uf_22, mo_ug_1, mo_ug_2, mo_ug_22, mo_len, Nat.reduceEqDiff, false_and, true_and, and_true, and_false, if_false, if_true, reduceIte, ite_true, ite_false, ne_eq, not_true_eq_false, not_false_eq_true] at *; omega)) (fun hb65 => ?_) (fun hb65 => ?_)
  · refine mw_vret dM_copySheet_96 rfl ?_
    have e9 : i = 8 := by omega
    subst e9
    exact hq
  · refine mw_aload_n dM_copySheet_68 rfl ?_
    refine mw_get dM_copySheet_69 fM_19 rfl ?_
    refine mw_bipush dM_copySheet_72 (by decide +kernel) ?_
    refine mw_iload_n dM_copySheet_74 rfl ?_
    refine mw_imul dM_copySheet_75 ?_
    refine mw_iload_n dM_copySheet_76 rfl ?_
    refine mw_iadd dM_copySheet_77 ?_
    refine mw_aload_n dM_copySheet_78 rfl ?_
    refine mw_get dM_copySheet_79 fM_19 rfl ?_
    refine mw_bipush dM_copySheet_82 (by decide +kernel) ?_
    refine mw_iload_n dM_copySheet_84 rfl ?_
    refine mw_imul dM_copySheet_85 ?_
    refine mw_iload_n dM_copySheet_86 rfl ?_
    refine mw_iadd dM_copySheet_87 ?_
    refine mw_iald dM_copySheet_88 rfl rfl (by first | omega | (simp only [mo_uz_1, mo_uz_2, mo_uf_1, mo_uf_2, mo_uf_22, mo_ug_1, mo_ug_2, mo_ug_22, mo_len, Nat.reduceEqDiff, false_and, true_and, and_true, and_false, if_false, if_true, reduceIte, ite_true, ite_false, ne_eq, not_true_eq_false, not_false_eq_true] at *; omega)) (by first | omega | (simp only [mo_uz_1, mo_uz_2, mo_uf_1, mo_uf_2, mo_uf_22, mo_ug_1, mo_ug_2, mo_ug_22, mo_len, Nat.reduceEqDiff, false_and, true_and, and_true, and_false, if_false, if_true, reduceIte, ite_true, ite_false, ne_eq, not_true_eq_false, not_false_eq_true] at *; omega)) (fun hv88 => ?_)
    refine mw_iast dM_copySheet_89 rfl rfl (by first | omega | (simp only [mo_uz_1, mo_uz_2, mo_uf_1, mo_uf_2, mo_uf_22, mo_ug_1, mo_ug_2, mo_ug_22, mo_len, Nat.reduceEqDiff, false_and, true_and, and_true, and_false, if_false, if_true, reduceIte, ite_true, ite_false, ne_eq, not_true_eq_false, not_false_eq_true] at *; omega)) (by first | omega | (simp only [mo_uz_1, mo_uz_2, mo_uf_1, mo_uf_2, mo_uf_22, mo_ug_1, mo_ug_2, mo_ug_22, mo_len, Nat.reduceEqDiff, false_and, true_and, and_true, and_false, if_false, if_true, reduceIte, ite_true, ite_false, ne_eq, not_true_eq_false, not_false_eq_true] at *; omega)) (by first | omega | (simp only [mo_uz_1, mo_uz_2, mo_uf_1, mo_uf_2, mo_uf_22, mo_ug_1, mo_ug_2, mo_ug_22, mo_len, Nat.reduceEqDiff, false_and, true_and, and_true, and_false, if_false, if_true, reduceIte, ite_true, ite_false, ne_eq, not_true_eq_false, not_false_eq_true] at *; omega)) ?_
    refine mw_iinc dM_copySheet_90 rfl (by decide) rfl ?_
    refine mw_goto (tgt := 62) dM_copySheet_93 (by decide) ?_
    rw [mo_cp_s h0 (by omega)]
    exact ih (by omega) (by omega)
theorem mo_copy_l1 {f t : Int} (hf : 0 ≤ f ∧ f ≤ 9) (ht : 10 ≤ t ∧ t ≤ 173) (hq : Q (.inl none) (mo_cp (mo_cp s 2 (24 * t) (24 * f) 24) 4 (8 * t) (8 * f) 8)) : ∀ i : Int, i ≤ 24 → 0 ≤ i → mw G b ad mM_copySheet d Q 26 [some (.ref b), some (.int (iI f)), some (.int (iI t)), some (.int (iI i))] [] (mo_cp s 2 (24 * t) (24 * f) i) kc ks := by
  refine il_up 24 (fun i hi ih h0 => ?_)
  refine mw_iload_n dM_copySheet_26 rfl ?_
  refine mw_bipush dM_copySheet_27 (by decide +kernel) ?_
  refine mw_icmp_ge (tgt := 60) dM_copySheet_29 (by decide) (by first | omega | (simp only [mo_uz_1, mo_uz_2, mo_uf_1, mo_uf_2, mo_uf_22, mo_ug_1, mo_ug_2, mo_ug_22, mo_len, Nat.reduceEqDiff, false_and, true_and, and_true, and_false, if_false, if_true, reduceIte, ite_true, ite_false, ne_eq, not_true_eq_false, not_false_eq_true] at *; omega)) (by first | omega | (simp only [mo_uz_1, mo_uz_2, mo_uf_1, mo_uf_2, mo_uf_22, mo_ug_1, mo_ug_2, mo_ug_22, mo_len, Nat.reduceEqDiff, false_and, true_and, and_true, and_false, if_false, if_true, reduceIte, ite_true, ite_false, ne_eq, not_true_eq_false, not_false_eq_true] at *; omega)) (fun hb29 => ?_) (fun hb29 => ?_)
  · refine mw_iconst dM_copySheet_60 ?_
    refine mw_istore_n dM_copySheet_61 (by decide) rfl ?_
    have e9 : i = 24 := by omega
    subst e9
    exact mw_eq (mo_cp_0 _ 4 (8 * t) (8 * f)).symm (mo_copy_l2 hf ht hq 0 (by decide) (by decide))
  · refine mw_aload_n dM_copySheet_32 rfl ?_
    refine mw_get dM_copySheet_33 fM_13 rfl ?_
    refine mw_bipush dM_copySheet_36 (by decide +kernel) ?_
    refine mw_iload_n dM_copySheet_38 rfl ?_
    refine mw_imul dM_copySheet_39 ?_
    refine mw_iload_n dM_copySheet_40 rfl ?_
    refine mw_iadd dM_copySheet_41 ?_
    refine mw_aload_n dM_copySheet_42 rfl ?_
    refine mw_get dM_copySheet_43 fM_13 rfl ?_
    refine mw_bipush dM_copySheet_46 (by decide +kernel) ?_
    refine mw_iload_n dM_copySheet_48 rfl ?_
    refine mw_imul dM_copySheet_49 ?_
    refine mw_iload_n dM_copySheet_50 rfl ?_
    refine mw_iadd dM_copySheet_51 ?_
    refine mw_iald dM_copySheet_52 rfl rfl (by first | omega | (simp only [mo_uz_1, mo_uz_2, mo_uf_1, mo_uf_2, mo_uf_22, mo_ug_1, mo_ug_2, mo_ug_22, mo_len, Nat.reduceEqDiff, false_and, true_and, and_true, and_false, if_false, if_true, reduceIte, ite_true, ite_false, ne_eq, not_true_eq_false, not_false_eq_true] at *; omega)) (by first | omega | (simp only [mo_uz_1, mo_uz_2, mo_uf_1, mo_uf_2, mo_uf_22, mo_ug_1, mo_ug_2, mo_ug_22, mo_len, Nat.reduceEqDiff, false_and, true_and, and_true, and_false, if_false, if_true, reduceIte, ite_true, ite_false, ne_eq, not_true_eq_false, not_false_eq_true] at *; omega)) (fun hv52 => ?_)
    refine mw_iast dM_copySheet_53 rfl rfl (by first | omega | (simp only [mo_uz_1, mo_uz_2, mo_uf_1, mo_uf_2, mo_uf_22, mo_ug_1, mo_ug_2, mo_ug_22, mo_len, Nat.reduceEqDiff, false_and, true_and, and_true, and_false, if_false, if_true, reduceIte, ite_true, ite_false, ne_eq, not_true_eq_false, not_false_eq_true] at *; omega)) (by first | omega | (simp only [mo_uz_1, mo_uz_2, mo_uf_1, mo_uf_2, mo_uf_22, mo_ug_1, mo_ug_2, mo_ug_22, mo_len, Nat.reduceEqDiff, false_and, true_and, and_true, and_false, if_false, if_true, reduceIte, ite_true, ite_false, ne_eq, not_true_eq_false, not_false_eq_true] at *; omega)) (by first | omega | (simp only [mo_uz_1, mo_uz_2, mo_uf_1, mo_uf_2, mo_uf_22, mo_ug_1, mo_ug_2, mo_ug_22, mo_len, Nat.reduceEqDiff, false_and, true_and, and_true, and_false, if_false, if_true, reduceIte, ite_true, ite_false, ne_eq, not_true_eq_false, not_false_eq_true] at *; omega)) ?_
    refine mw_iinc dM_copySheet_54 rfl (by decide) rfl ?_
    refine mw_goto (tgt := 26) dM_copySheet_57 (by decide) ?_
    rw [mo_cp_s h0 (by omega)]
    exact ih (by omega) (by omega)
abbrev mo_copied (s : mo_S) (f t : Int) : mo_S := mo_cp (mo_cp (mo_uf (mo_uf s 1 t (s.2.1 1 f)) 3 t (s.2.1 3 f)) 2 (24 * t) (24 * f) 24) 4 (8 * t) (8 * f) 8
theorem mo_copySheet {f t : Int} (hf : 0 ≤ f ∧ f ≤ 9) (ht : 10 ≤ t ∧ t ≤ 173) (hq : Q (.inl none) (mo_copied s f t)) : mw G b ad mM_copySheet d Q 0 [some (.ref b), some (.int (iI f)), some (.int (iI t)), none] [] s kc ks := by
  refine mw_aload_n dM_copySheet_0 rfl ?_
  refine mw_get dM_copySheet_1 fM_7 rfl ?_
  refine mw_iload_n dM_copySheet_4 rfl ?_
  refine mw_aload_n dM_copySheet_5 rfl ?_
  refine mw_get dM_copySheet_6 fM_7 rfl ?_
  refine mw_iload_n dM_copySheet_9 rfl ?_
  refine mw_iald dM_copySheet_10 rfl rfl (by first | omega | (simp only [mo_uz_1, mo_uz_2, mo_uf_1, mo_uf_2, mo_uf_22, mo_ug_1, mo_ug_2, mo_ug_22, mo_len, Nat.reduceEqDiff, false_and, true_and, and_true, and_false, if_false, if_true, reduceIte, ite_true, ite_false, ne_eq, not_true_eq_false, not_false_eq_true] at *; omega)) (by first | omega | (simp only [mo_uz_1, mo_uz_2, mo_uf_1, mo_uf_2, mo_uf_22, mo_ug_1, mo_ug_2, mo_ug_22, mo_len, Nat.reduceEqDiff, false_and, true_and, and_true, and_false, if_false, if_true, reduceIte, ite_true, ite_false, ne_eq, not_true_eq_false, not_false_eq_true] at *; omega)) (fun hv10 => ?_)
  refine mw_iast dM_copySheet_11 rfl rfl (by first | omega | (simp only [mo_uz_1, mo_uz_2, mo_uf_1, mo_uf_2, mo_uf_22, mo_ug_1, mo_ug_2, mo_ug_22, mo_len, Nat.reduceEqDiff, false_and, true_and, and_true, and_false, if_false, if_true, reduceIte, ite_true, ite_false, ne_eq, not_true_eq_false, not_false_eq_true] at *; omega)) (by first | omega | (simp only [mo_uz_1, mo_uz_2, mo_uf_1, mo_uf_2, mo_uf_22, mo_ug_1, mo_ug_2, mo_ug_22, mo_len, Nat.reduceEqDiff, false_and, true_and, and_true, and_false, if_false, if_true, reduceIte, ite_true, ite_false, ne_eq, not_true_eq_false, not_false_eq_true] at *; omega)) (by first | omega | (simp only [mo_uz_1, mo_uz_2, mo_uf_1, mo_uf_2, mo_uf_22, mo_ug_1, mo_ug_2, mo_ug_22, mo_len, Nat.reduceEqDiff, false_and, true_and, and_true, and_false, if_false, if_true, reduceIte, ite_true, ite_false, ne_eq, not_true_eq_false, not_false_eq_true] at *; omega)) ?_
  refine mw_aload_n dM_copySheet_12 rfl ?_
  refine mw_get dM_copySheet_13 fM_16 rfl ?_
  refine mw_iload_n dM_copySheet_16 rfl ?_
  refine mw_aload_n dM_copySheet_17 rfl ?_
  refine mw_get dM_copySheet_18 fM_16 rfl ?_
  refine mw_iload_n dM_copySheet_21 rfl ?_
  refine mw_iald dM_copySheet_22 rfl rfl (by first | omega | (simp only [mo_uz_1, mo_uz_2, mo_uf_1, mo_uf_2, mo_uf_22, mo_ug_1, mo_ug_2, mo_ug_22, mo_len, Nat.reduceEqDiff, false_and, true_and, and_true, and_false, if_false, if_true, reduceIte, ite_true, ite_false, ne_eq, not_true_eq_false, not_false_eq_true] at *; omega)) (by first | omega | (simp only [mo_uz_1, mo_uz_2, mo_uf_1, mo_uf_2, mo_uf_22, mo_ug_1, mo_ug_2, mo_ug_22, mo_len, Nat.reduceEqDiff, false_and, true_and, and_true, and_false, if_false, if_true, reduceIte, ite_true, ite_false, ne_eq, not_true_eq_false, not_false_eq_true] at *; omega)) (fun hv22 => ?_)
  refine mw_iast dM_copySheet_23 rfl rfl (by first | omega | (simp only [mo_uz_1, mo_uz_2, mo_uf_1, mo_uf_2, mo_uf_22, mo_ug_1, mo_ug_2, mo_ug_22, mo_len, Nat.reduceEqDiff, false_and, true_and, and_true, and_false, if_false, if_true, reduceIte, ite_true, ite_false, ne_eq, not_true_eq_false, not_false_eq_true] at *; omega)) (by first | omega | (simp only [mo_uz_1, mo_uz_2, mo_uf_1, mo_uf_2, mo_uf_22, mo_ug_1, mo_ug_2, mo_ug_22, mo_len, Nat.reduceEqDiff, false_and, true_and, and_true, and_false, if_false, if_true, reduceIte, ite_true, ite_false, ne_eq, not_true_eq_false, not_false_eq_true] at *; omega)) (by first | omega | (simp only [mo_uz_1, mo_uz_2, mo_uf_1, mo_uf_2, mo_uf_22, mo_ug_1, mo_ug_2, mo_ug_22, mo_len, Nat.reduceEqDiff, false_and, true_and, and_true, and_false, if_false, if_true, reduceIte, ite_true, ite_false, ne_eq, not_true_eq_false, not_false_eq_true] at *; omega)) ?_
  refine mw_iconst dM_copySheet_24 ?_
  refine mw_istore_n dM_copySheet_25 (by decide) rfl ?_
  exact mw_eq (mo_cp_0 _ 2 (24 * t) (24 * f)).symm (mo_copy_l1 hf ht hq 0 (by decide) (by decide))

end MO5
