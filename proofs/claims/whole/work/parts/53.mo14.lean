/-! the reference: apply -/
section MO14
variable {G : aw_G} {b : Nat} {ad : Nat → Nat} {d : Nat} {Q : aw_O → mo_S → Prop} {s : mo_S} {kc ks : Nat}
theorem mo_apply_l {c p v ty : Int} (hc : 0 ≤ c ∧ c ≤ 11) (ht : iB ty) (hn : 0 ≤ s.2.1 23 c ∧ s.2.1 23 c ≤ 8) (h0 : (∃ k, 0 ≤ k ∧ k < s.2.1 23 c ∧ s.2.1 22 (8 * c + k) = ty) → Q (.inl (some (.int (iI 0)))) s) (h3 : ¬ (∃ k, 0 ≤ k ∧ k < s.2.1 23 c ∧ s.2.1 22 (8 * c + k) = ty) → s.2.1 23 c = 8 → Q (.inl (some (.int (iI (-3))))) s) (h1 : ¬ (∃ k, 0 ≤ k ∧ k < s.2.1 23 c ∧ s.2.1 22 (8 * c + k) = ty) → s.2.1 23 c < 8 → Q (.inl (some (.int (iI 1)))) (mo_uf (mo_uf s 22 (8 * c + s.2.1 23 c) ty) 23 c (s.2.1 23 c + 1))) : ∀ k : Int, k ≤ s.2.1 23 c → 0 ≤ k → (∀ j, 0 ≤ j → j < k → ¬ s.2.1 22 (8 * c + j) = ty) → mw G b ad mM_apply (d + 1) Q 119 [some (.ref b), some (.int (iI c)), some (.int (iI p)), some (.int (iI v)), some (.int (iI ty)), some (.int (iI (s.2.1 23 c))), some (.int (iI k))] [] s kc ks := by
  refine il_up (s.2.1 23 c) (fun k hk ih hk0 hj => ?_)
  refine mw_iload dM_apply_119 rfl ?_
  refine mw_iload dM_apply_121 rfl ?_
  refine mw_icmp_ge (tgt := 151) dM_apply_123 (by decide) (by first | omega | (simp only [mo_uz_1, mo_uz_2, mo_uf_1, mo_uf_2, mo_uf_22, mo_ug_1, mo_ug_2, mo_ug_22, mo_len, Nat.reduceEqDiff, false_and, true_and, and_true, and_false, if_false, if_true, reduceIte, ite_true, ite_false, ne_eq, not_true_eq_false, not_false_eq_true, mo_ff_l, mo_ff_f, mo_ff_2, mo_ff_12, mo_ff_24, mo_wq_1, mo_wq_31, mo_wq_32, mo_wq_2] at *; omega)) (by first | omega | (simp only [mo_uz_1, mo_uz_2, mo_uf_1, mo_uf_2, mo_uf_22, mo_ug_1, mo_ug_2, mo_ug_22, mo_len, Nat.reduceEqDiff, false_and, true_and, and_true, and_false, if_false, if_true, reduceIte, ite_true, ite_false, ne_eq, not_true_eq_false, not_false_eq_true, mo_ff_l, mo_ff_f, mo_ff_2, mo_ff_12, mo_ff_24, mo_wq_1, mo_wq_31, mo_wq_32, mo_wq_2] at *; omega)) (fun hb123 => ?_) (fun hb123 => ?_)
  · refine mw_iload dM_apply_151 rfl ?_
    refine mw_bipush dM_apply_153 (by decide +kernel) ?_
    refine mw_icmp_ne (tgt := 161) dM_apply_155 (by decide) (by first | omega | (simp only [mo_uz_1, mo_uz_2, mo_uf_1, mo_uf_2, mo_uf_22, mo_ug_1, mo_ug_2, mo_ug_22, mo_len, Nat.reduceEqDiff, false_and, true_and, and_true, and_false, if_false, if_true, reduceIte, ite_true, ite_false, ne_eq, not_true_eq_false, not_false_eq_true, mo_ff_l, mo_ff_f, mo_ff_2, mo_ff_12, mo_ff_24, mo_wq_1, mo_wq_31, mo_wq_32, mo_wq_2] at *; omega)) (by first | omega | (simp only [mo_uz_1, mo_uz_2, mo_uf_1, mo_uf_2, mo_uf_22, mo_ug_1, mo_ug_2, mo_ug_22, mo_len, Nat.reduceEqDiff, false_and, true_and, and_true, and_false, if_false, if_true, reduceIte, ite_true, ite_false, ne_eq, not_true_eq_false, not_false_eq_true, mo_ff_l, mo_ff_f, mo_ff_2, mo_ff_12, mo_ff_24, mo_wq_1, mo_wq_31, mo_wq_32, mo_wq_2] at *; omega)) (fun hb155 => ?_) (fun hb155 => ?_)
    · refine mw_aload_n dM_apply_161 rfl ?_
      refine mw_get dM_apply_162 fM_76 rfl ?_
      refine mw_bipush dM_apply_165 (by decide +kernel) ?_
      refine mw_iload_n dM_apply_167 rfl ?_
      refine mw_imul dM_apply_168 ?_
      refine mw_iload dM_apply_169 rfl ?_
      refine mw_iadd dM_apply_171 ?_
      refine mw_iload dM_apply_172 rfl ?_
      refine mw_iast dM_apply_174 rfl rfl (by first | omega | (simp only [mo_uz_1, mo_uz_2, mo_uf_1, mo_uf_2, mo_uf_22, mo_ug_1, mo_ug_2, mo_ug_22, mo_len, Nat.reduceEqDiff, false_and, true_and, and_true, and_false, if_false, if_true, reduceIte, ite_true, ite_false, ne_eq, not_true_eq_false, not_false_eq_true, mo_ff_l, mo_ff_f, mo_ff_2, mo_ff_12, mo_ff_24, mo_wq_1, mo_wq_31, mo_wq_32, mo_wq_2] at *; omega)) (by first | omega | (simp only [mo_uz_1, mo_uz_2, mo_uf_1, mo_uf_2, mo_uf_22, mo_ug_1, mo_ug_2, mo_ug_22, mo_len, Nat.reduceEqDiff, false_and, true_and, and_true, and_false, if_false, if_true, reduceIte, ite_true, ite_false, ne_eq, not_true_eq_false, not_false_eq_true, mo_ff_l, mo_ff_f, mo_ff_2, mo_ff_12, mo_ff_24, mo_wq_1, mo_wq_31, mo_wq_32, mo_wq_2] at *; omega)) (by first | omega | (simp only [mo_uz_1, mo_uz_2, mo_uf_1, mo_uf_2, mo_uf_22, mo_ug_1, mo_ug_2, mo_ug_22, mo_len, Nat.reduceEqDiff, false_and, true_and, and_true, and_false, if_false, if_true, reduceIte, ite_true, ite_false, ne_eq, not_true_eq_false, not_false_eq_true, mo_ff_l, mo_ff_f, mo_ff_2, mo_ff_12, mo_ff_24, mo_wq_1, mo_wq_31, mo_wq_32, mo_wq_2] at *; omega)) ?_
      refine mw_aload_n dM_apply_175 rfl ?_
      refine mw_get dM_apply_176 fM_79 rfl ?_
      refine mw_iload_n dM_apply_179 rfl ?_
      refine mw_dup2 dM_apply_180 rfl rfl ?_
      refine mw_iald dM_apply_181 rfl rfl (by first | omega | (simp only [mo_uz_1, mo_uz_2, mo_uf_1, mo_uf_2, mo_uf_22, mo_ug_1, mo_ug_2, mo_ug_22, mo_len, Nat.reduceEqDiff, false_and, true_and, and_true, and_false, if_false, if_true, reduceIte, ite_true, ite_false, ne_eq, not_true_eq_false, not_false_eq_true, mo_ff_l, mo_ff_f, mo_ff_2, mo_ff_12, mo_ff_24, mo_wq_1, mo_wq_31, mo_wq_32, mo_wq_2] at *; omega)) (by first | omega | (simp only [mo_uz_1, mo_uz_2, mo_uf_1, mo_uf_2, mo_uf_22, mo_ug_1, mo_ug_2, mo_ug_22, mo_len, Nat.reduceEqDiff, false_and, true_and, and_true, and_false, if_false, if_true, reduceIte, ite_true, ite_false, ne_eq, not_true_eq_false, not_false_eq_true, mo_ff_l, mo_ff_f, mo_ff_2, mo_ff_12, mo_ff_24, mo_wq_1, mo_wq_31, mo_wq_32, mo_wq_2] at *; omega)) (fun hv181 => ?_)
      refine mw_iconst dM_apply_182 ?_
      refine mw_iadd dM_apply_183 ?_
      refine mw_iast dM_apply_184 rfl rfl (by first | omega | (simp only [mo_uz_1, mo_uz_2, mo_uf_1, mo_uf_2, mo_uf_22, mo_ug_1, mo_ug_2, mo_ug_22, mo_len, Nat.reduceEqDiff, false_and, true_and, and_true, and_false, if_false, if_true, reduceIte, ite_true, ite_false, ne_eq, not_true_eq_false, not_false_eq_true, mo_ff_l, mo_ff_f, mo_ff_2, mo_ff_12, mo_ff_24, mo_wq_1, mo_wq_31, mo_wq_32, mo_wq_2] at *; omega)) (by first | omega | (simp only [mo_uz_1, mo_uz_2, mo_uf_1, mo_uf_2, mo_uf_22, mo_ug_1, mo_ug_2, mo_ug_22, mo_len, Nat.reduceEqDiff, false_and, true_and, and_true, and_false, if_false, if_true, reduceIte, ite_true, ite_false, ne_eq, not_true_eq_false, not_false_eq_true, mo_ff_l, mo_ff_f, mo_ff_2, mo_ff_12, mo_ff_24, mo_wq_1, mo_wq_31, mo_wq_32, mo_wq_2] at *; omega)) (by first | omega | (simp only [mo_uz_1, mo_uz_2, mo_uf_1, mo_uf_2, mo_uf_22, mo_ug_1, mo_ug_2, mo_ug_22, mo_len, Nat.reduceEqDiff, false_and, true_and, and_true, and_false, if_false, if_true, reduceIte, ite_true, ite_false, ne_eq, not_true_eq_false, not_false_eq_true, mo_ff_l, mo_ff_f, mo_ff_2, mo_ff_12, mo_ff_24, mo_wq_1, mo_wq_31, mo_wq_32, mo_wq_2] at *; omega)) ?_
      refine mw_iconst dM_apply_185 ?_
      refine mw_iret dM_apply_186 rfl ?_
      exact h1 (fun z => by obtain ⟨j, q1, q2, q3⟩ := z; exact hj j q1 (by omega) q3) (by omega)
    · refine mw_bipush dM_apply_158 (by decide +kernel) ?_
      refine mw_iret dM_apply_160 rfl ?_
      exact h3 (fun z => by obtain ⟨j, q1, q2, q3⟩ := z; exact hj j q1 (by omega) q3) (by omega)
  · refine mw_aload_n dM_apply_126 rfl ?_
    refine mw_get dM_apply_127 fM_76 rfl ?_
    refine mw_bipush dM_apply_130 (by decide +kernel) ?_
    refine mw_iload_n dM_apply_132 rfl ?_
    refine mw_imul dM_apply_133 ?_
    refine mw_iload dM_apply_134 rfl ?_
    refine mw_iadd dM_apply_136 ?_
    refine mw_iald dM_apply_137 rfl rfl (by first | omega | (simp only [mo_uz_1, mo_uz_2, mo_uf_1, mo_uf_2, mo_uf_22, mo_ug_1, mo_ug_2, mo_ug_22, mo_len, Nat.reduceEqDiff, false_and, true_and, and_true, and_false, if_false, if_true, reduceIte, ite_true, ite_false, ne_eq, not_true_eq_false, not_false_eq_true, mo_ff_l, mo_ff_f, mo_ff_2, mo_ff_12, mo_ff_24, mo_wq_1, mo_wq_31, mo_wq_32, mo_wq_2] at *; omega)) (by first | omega | (simp only [mo_uz_1, mo_uz_2, mo_uf_1, mo_uf_2, mo_uf_22, mo_ug_1, mo_ug_2, mo_ug_22, mo_len, Nat.reduceEqDiff, false_and, true_and, and_true, and_false, if_false, if_true, reduceIte, ite_true, ite_false, ne_eq, not_true_eq_false, not_false_eq_true, mo_ff_l, mo_ff_f, mo_ff_2, mo_ff_12, mo_ff_24, mo_wq_1, mo_wq_31, mo_wq_32, mo_wq_2] at *; omega)) (fun hv137 => ?_)
    refine mw_iload dM_apply_138 rfl ?_
    refine mw_icmp_ne (tgt := 145) dM_apply_140 (by decide) (by first | omega | (simp only [mo_uz_1, mo_uz_2, mo_uf_1, mo_uf_2, mo_uf_22, mo_ug_1, mo_ug_2, mo_ug_22, mo_len, Nat.reduceEqDiff, false_and, true_and, and_true, and_false, if_false, if_true, reduceIte, ite_true, ite_false, ne_eq, not_true_eq_false, not_false_eq_true, mo_ff_l, mo_ff_f, mo_ff_2, mo_ff_12, mo_ff_24, mo_wq_1, mo_wq_31, mo_wq_32, mo_wq_2] at *; omega)) (by first | omega | (simp only [mo_uz_1, mo_uz_2, mo_uf_1, mo_uf_2, mo_uf_22, mo_ug_1, mo_ug_2, mo_ug_22, mo_len, Nat.reduceEqDiff, false_and, true_and, and_true, and_false, if_false, if_true, reduceIte, ite_true, ite_false, ne_eq, not_true_eq_false, not_false_eq_true, mo_ff_l, mo_ff_f, mo_ff_2, mo_ff_12, mo_ff_24, mo_wq_1, mo_wq_31, mo_wq_32, mo_wq_2] at *; omega)) (fun hb140 => ?_) (fun hb140 => ?_)
    · refine mw_iinc dM_apply_145 rfl (by decide) rfl ?_
      refine mw_goto (tgt := 119) dM_apply_148 (by decide) ?_
      refine ih (by omega) (by omega) (fun j q1 q2 => ?_)
      by_cases e : j = k
      · subst e; omega
      · exact hj j q1 (by omega)
    · refine mw_iconst dM_apply_143 ?_
      refine mw_iret dM_apply_144 rfl ?_
      exact h0 ⟨k, hk0, by omega, by omega⟩
theorem mo_apply_t {c p v ty : Int} (hc : 0 ≤ c ∧ c ≤ 11) (ht : iB ty) (hn : 0 ≤ s.2.1 23 c ∧ s.2.1 23 c ≤ 8) (h24 : s.1 24 ≤ 120) (hsup : ∀ c, 0 ≤ c → c < s.1 24 → -1 ≤ s.2.1 28 c ∧ s.2.1 28 c < c) (htr : 0 ≤ ty ∧ ty < s.1 24) (h2 : ¬ mo_dsc (s.2.1 28) ty 1 → Q (.inl (some (.int (iI (-2))))) s) (h0 : mo_dsc (s.2.1 28) ty 1 → (∃ k, 0 ≤ k ∧ k < s.2.1 23 c ∧ s.2.1 22 (8 * c + k) = ty) → Q (.inl (some (.int (iI 0)))) s) (h3 : mo_dsc (s.2.1 28) ty 1 → ¬ (∃ k, 0 ≤ k ∧ k < s.2.1 23 c ∧ s.2.1 22 (8 * c + k) = ty) → s.2.1 23 c = 8 → Q (.inl (some (.int (iI (-3))))) s) (h1 : mo_dsc (s.2.1 28) ty 1 → ¬ (∃ k, 0 ≤ k ∧ k < s.2.1 23 c ∧ s.2.1 22 (8 * c + k) = ty) → s.2.1 23 c < 8 → Q (.inl (some (.int (iI 1)))) (mo_uf (mo_uf s 22 (8 * c + s.2.1 23 c) ty) 23 c (s.2.1 23 c + 1))) : mw G b ad mM_apply (d + 1) Q 95 [some (.ref b), some (.int (iI c)), some (.int (iI p)), some (.int (iI v)), some (.int (iI ty)), none, none] [] s kc ks := by
  refine mw_aload_n dM_apply_95 rfl ?_
  refine mw_iload dM_apply_96 rfl ?_
  refine mw_iconst dM_apply_98 ?_
  refine mw_callV2 dM_apply_99 cM_178 (Nat.le_of_ble_eq_true rfl) (Nat.le_of_ble_eq_true rfl) rfl ?_
  refine mo_descends (by decide) h24 hsup htr (fun hd => ?_) (fun hd => ?_)
  · refine mw_if_ne (tgt := 108) dM_apply_102 (by decide) (by first | omega | (simp only [mo_uz_1, mo_uz_2, mo_uf_1, mo_uf_2, mo_uf_22, mo_ug_1, mo_ug_2, mo_ug_22, mo_len, Nat.reduceEqDiff, false_and, true_and, and_true, and_false, if_false, if_true, reduceIte, ite_true, ite_false, ne_eq, not_true_eq_false, not_false_eq_true, mo_ff_l, mo_ff_f, mo_ff_2, mo_ff_12, mo_ff_24, mo_wq_1, mo_wq_31, mo_wq_32, mo_wq_2] at *; omega)) (fun _ => ?_) (fun hb102 => absurd hb102 (by decide))
    refine mw_aload_n dM_apply_108 rfl ?_
    refine mw_get dM_apply_109 fM_79 rfl ?_
    refine mw_iload_n dM_apply_112 rfl ?_
    refine mw_iald dM_apply_113 rfl rfl (by first | omega | (simp only [mo_uz_1, mo_uz_2, mo_uf_1, mo_uf_2, mo_uf_22, mo_ug_1, mo_ug_2, mo_ug_22, mo_len, Nat.reduceEqDiff, false_and, true_and, and_true, and_false, if_false, if_true, reduceIte, ite_true, ite_false, ne_eq, not_true_eq_false, not_false_eq_true, mo_ff_l, mo_ff_f, mo_ff_2, mo_ff_12, mo_ff_24, mo_wq_1, mo_wq_31, mo_wq_32, mo_wq_2] at *; omega)) (by first | omega | (simp only [mo_uz_1, mo_uz_2, mo_uf_1, mo_uf_2, mo_uf_22, mo_ug_1, mo_ug_2, mo_ug_22, mo_len, Nat.reduceEqDiff, false_and, true_and, and_true, and_false, if_false, if_true, reduceIte, ite_true, ite_false, ne_eq, not_true_eq_false, not_false_eq_true, mo_ff_l, mo_ff_f, mo_ff_2, mo_ff_12, mo_ff_24, mo_wq_1, mo_wq_31, mo_wq_32, mo_wq_2] at *; omega)) (fun hv113 => ?_)
    refine mw_istore dM_apply_114 (by decide) rfl ?_
    refine mw_iconst dM_apply_116 ?_
    refine mw_istore dM_apply_117 (by decide) rfl ?_
    exact mo_apply_l hc ht hn (h0 hd) (h3 hd) (h1 hd) 0 hn.1 (by decide) (fun j q1 q2 => absurd q2 (by omega))
  · refine mw_if_ne (tgt := 108) dM_apply_102 (by decide) (by first | omega | (simp only [mo_uz_1, mo_uz_2, mo_uf_1, mo_uf_2, mo_uf_22, mo_ug_1, mo_ug_2, mo_ug_22, mo_len, Nat.reduceEqDiff, false_and, true_and, and_true, and_false, if_false, if_true, reduceIte, ite_true, ite_false, ne_eq, not_true_eq_false, not_false_eq_true, mo_ff_l, mo_ff_f, mo_ff_2, mo_ff_12, mo_ff_24, mo_wq_1, mo_wq_31, mo_wq_32, mo_wq_2] at *; omega)) (fun hb102 => absurd hb102 (by decide)) (fun _ => ?_)
    refine mw_bipush dM_apply_105 (by decide +kernel) ?_
    refine mw_iret dM_apply_107 rfl ?_
    exact h2 hd
theorem mo_apply {c p : Int} (hc : iB c) (hp : iB p) (h12 : 1 ≤ s.1 12 ∧ s.1 12 ≤ 12) (h24 : 8 ≤ s.1 24 ∧ s.1 24 ≤ 120) (hku : mo_ku s.2 (s.1 24)) (hbad : ¬ ((0 ≤ c ∧ c < s.1 12) ∧ 0 ≤ p ∧ p ≤ 9) → Q (.inl (some (.int (iI 0)))) (mo_uz s 0 1)) (hst : (0 ≤ c ∧ c < s.1 12) ∧ 0 ≤ p ∧ p ≤ 9 → ¬ s.2.1 13 c = 1 → Q (.inl (some (.int (iI 0)))) (mo_uz s 0 2)) (hgo : (0 ≤ c ∧ c < s.1 12) ∧ 0 ≤ p ∧ p ≤ 9 → s.2.1 13 c = 1 → ∃ n r0, (mo_chn s.2 n (s.2.1 21 (3 * c + 2)) ∧ mo_dr s.2 p n (s.2.1 21 (3 * c + 2)) r0) ∧ (r0 = none → Q (.inl (some (.int (iI (-1))))) (mo_uz s 0 0)) ∧ (∀ o v, r0 = some (o, v) → ¬ (v < 8 ∨ mo_lt s.2 p v n (s.2.1 21 (3 * c + 2))) → Q (.inl (some (.int (iI (-1))))) (mo_uz s 0 0)) ∧ (∀ o v, r0 = some (o, v) → (v < 8 ∨ mo_lt s.2 p v n (s.2.1 21 (3 * c + 2))) → (0 ≤ v ∧ v ≤ 63) ∧ ∃ r, mo_ph s.2 (s.1 24) n 8 [] (s.2.1 21 (3 * c + 2)) v r ∧ ((mo_rs (mo_uz s 0 0) r).2 = -1 → ∀ x y f g, Q (.inl (some (.int (iI 0)))) (mo_ff (mo_wq (mo_uz (mo_rs (mo_uz s 0 0) r).1 0 3) f g) x y)) ∧ ((mo_rs (mo_uz s 0 0) r).2 = -2 → ∀ x y f g, Q (.inl (some (.int (iI 0)))) (mo_ff (mo_wq (mo_uz (mo_rs (mo_uz s 0 0) r).1 0 4) f g) x y)) ∧ (0 ≤ (mo_rs (mo_uz s 0 0) r).2 → ∀ x y f g, mw G b ad mM_apply (d + 1 + 1 + 1 + 1) Q 95 [some (.ref b), some (.int (iI c)), some (.int (iI p)), some (.int (iI v)), some (.int (iI (mo_rs (mo_uz s 0 0) r).2)), none, none] [] (mo_ff (mo_wq (mo_uz (mo_rs (mo_uz s 0 0) r).1 0 0) f g) x y) kc ks))) : mw G b ad mM_apply (d + 1 + 1 + 1 + 1) Q 0 [some (.ref b), some (.int (iI c)), some (.int (iI p)), none, none, none, none] [] s kc ks := by
  refine mw_aload_n dM_apply_0 rfl ?_
  refine mw_aload_n dM_apply_1 rfl ?_
  refine mw_iload_n dM_apply_2 rfl ?_
  refine mw_callV1 dM_apply_3 cM_140 (Nat.le_of_ble_eq_true rfl) (Nat.le_of_ble_eq_true rfl) rfl ?_
  refine mo_noScope (by first | omega | (simp only [mo_uz_1, mo_uz_2, mo_uf_1, mo_uf_2, mo_uf_22, mo_ug_1, mo_ug_2, mo_ug_22, mo_len, Nat.reduceEqDiff, false_and, true_and, and_true, and_false, if_false, if_true, reduceIte, ite_true, ite_false, ne_eq, not_true_eq_false, not_false_eq_true, mo_ff_l, mo_ff_f, mo_ff_2, mo_ff_12, mo_ff_24, mo_wq_1, mo_wq_31, mo_wq_32, mo_wq_2] at *; omega)) (fun hn3 => ?_) (fun hn3 => ?_)
  · refine mw_if_ne (tgt := 19) dM_apply_6 (by decide) (by first | omega | (simp only [mo_uz_1, mo_uz_2, mo_uf_1, mo_uf_2, mo_uf_22, mo_ug_1, mo_ug_2, mo_ug_22, mo_len, Nat.reduceEqDiff, false_and, true_and, and_true, and_false, if_false, if_true, reduceIte, ite_true, ite_false, ne_eq, not_true_eq_false, not_false_eq_true, mo_ff_l, mo_ff_f, mo_ff_2, mo_ff_12, mo_ff_24, mo_wq_1, mo_wq_31, mo_wq_32, mo_wq_2] at *; omega)) (fun _ => ?_) (fun hb6 => absurd hb6 (by decide))
    refine mw_iconst dM_apply_19 ?_
    refine mw_goto (tgt := 24) dM_apply_20 (by decide) ?_
    refine mw_iconst dM_apply_24 ?_
    refine mw_callV2 dM_apply_25 cM_110 (Nat.le_of_ble_eq_true rfl) (Nat.le_of_ble_eq_true rfl) rfl ?_
    refine mo_fails1 (by decide) ?_
    refine mw_if_ne (tgt := 54) dM_apply_28 (by decide) (by first | omega | (simp only [mo_uz_1, mo_uz_2, mo_uf_1, mo_uf_2, mo_uf_22, mo_ug_1, mo_ug_2, mo_ug_22, mo_len, Nat.reduceEqDiff, false_and, true_and, and_true, and_false, if_false, if_true, reduceIte, ite_true, ite_false, ne_eq, not_true_eq_false, not_false_eq_true, mo_ff_l, mo_ff_f, mo_ff_2, mo_ff_12, mo_ff_24, mo_wq_1, mo_wq_31, mo_wq_32, mo_wq_2] at *; omega)) (fun _ => ?_) (fun hb28 => absurd hb28 (by decide))
    refine mw_iconst dM_apply_54 ?_
    refine mw_iret dM_apply_55 rfl ?_
    first | exact hbad (by first | omega | (simp only [mo_uz_1, mo_uz_2, mo_uf_1, mo_uf_2, mo_uf_22, mo_ug_1, mo_ug_2, mo_ug_22, mo_len, Nat.reduceEqDiff, false_and, true_and, and_true, and_false, if_false, if_true, reduceIte, ite_true, ite_false, ne_eq, not_true_eq_false, not_false_eq_true, mo_ff_l, mo_ff_f, mo_ff_2, mo_ff_12, mo_ff_24, mo_wq_1, mo_wq_31, mo_wq_32, mo_wq_2] at *; omega)) | (rw [mo_uz_uz]; exact hst (by first | omega | (simp only [mo_uz_1, mo_uz_2, mo_uf_1, mo_uf_2, mo_uf_22, mo_ug_1, mo_ug_2, mo_ug_22, mo_len, Nat.reduceEqDiff, false_and, true_and, and_true, and_false, if_false, if_true, reduceIte, ite_true, ite_false, ne_eq, not_true_eq_false, not_false_eq_true, mo_ff_l, mo_ff_f, mo_ff_2, mo_ff_12, mo_ff_24, mo_wq_1, mo_wq_31, mo_wq_32, mo_wq_2] at *; omega)) (by first | omega | (simp only [mo_uz_1, mo_uz_2, mo_uf_1, mo_uf_2, mo_uf_22, mo_ug_1, mo_ug_2, mo_ug_22, mo_len, Nat.reduceEqDiff, false_and, true_and, and_true, and_false, if_false, if_true, reduceIte, ite_true, ite_false, ne_eq, not_true_eq_false, not_false_eq_true, mo_ff_l, mo_ff_f, mo_ff_2, mo_ff_12, mo_ff_24, mo_wq_1, mo_wq_31, mo_wq_32, mo_wq_2] at *; omega)))
  · refine mw_if_ne (tgt := 19) dM_apply_6 (by decide) (by first | omega | (simp only [mo_uz_1, mo_uz_2, mo_uf_1, mo_uf_2, mo_uf_22, mo_ug_1, mo_ug_2, mo_ug_22, mo_len, Nat.reduceEqDiff, false_and, true_and, and_true, and_false, if_false, if_true, reduceIte, ite_true, ite_false, ne_eq, not_true_eq_false, not_false_eq_true, mo_ff_l, mo_ff_f, mo_ff_2, mo_ff_12, mo_ff_24, mo_wq_1, mo_wq_31, mo_wq_32, mo_wq_2] at *; omega)) (fun hb6 => absurd hb6 (by decide)) (fun _ => ?_)
    refine mw_iload_n dM_apply_9 rfl ?_
    refine mw_iconst dM_apply_10 ?_
    refine mw_bipush dM_apply_11 (by decide +kernel) ?_
    refine mw_callS3 dM_apply_13 cM_106 (Nat.le_of_ble_eq_true rfl) (Nat.le_of_ble_eq_true rfl) rfl ?_
    refine mo_in (by first | omega | (simp only [mo_uz_1, mo_uz_2, mo_uf_1, mo_uf_2, mo_uf_22, mo_ug_1, mo_ug_2, mo_ug_22, mo_len, Nat.reduceEqDiff, false_and, true_and, and_true, and_false, if_false, if_true, reduceIte, ite_true, ite_false, ne_eq, not_true_eq_false, not_false_eq_true, mo_ff_l, mo_ff_f, mo_ff_2, mo_ff_12, mo_ff_24, mo_wq_1, mo_wq_31, mo_wq_32, mo_wq_2] at *; omega)) (by first | omega | (simp only [mo_uz_1, mo_uz_2, mo_uf_1, mo_uf_2, mo_uf_22, mo_ug_1, mo_ug_2, mo_ug_22, mo_len, Nat.reduceEqDiff, false_and, true_and, and_true, and_false, if_false, if_true, reduceIte, ite_true, ite_false, ne_eq, not_true_eq_false, not_false_eq_true, mo_ff_l, mo_ff_f, mo_ff_2, mo_ff_12, mo_ff_24, mo_wq_1, mo_wq_31, mo_wq_32, mo_wq_2] at *; omega)) (by first | omega | (simp only [mo_uz_1, mo_uz_2, mo_uf_1, mo_uf_2, mo_uf_22, mo_ug_1, mo_ug_2, mo_ug_22, mo_len, Nat.reduceEqDiff, false_and, true_and, and_true, and_false, if_false, if_true, reduceIte, ite_true, ite_false, ne_eq, not_true_eq_false, not_false_eq_true, mo_ff_l, mo_ff_f, mo_ff_2, mo_ff_12, mo_ff_24, mo_wq_1, mo_wq_31, mo_wq_32, mo_wq_2] at *; omega)) (fun hi13 => ?_) (fun hi13 => ?_)
    · refine mw_if_ne (tgt := 23) dM_apply_16 (by decide) (by first | omega | (simp only [mo_uz_1, mo_uz_2, mo_uf_1, mo_uf_2, mo_uf_22, mo_ug_1, mo_ug_2, mo_ug_22, mo_len, Nat.reduceEqDiff, false_and, true_and, and_true, and_false, if_false, if_true, reduceIte, ite_true, ite_false, ne_eq, not_true_eq_false, not_false_eq_true, mo_ff_l, mo_ff_f, mo_ff_2, mo_ff_12, mo_ff_24, mo_wq_1, mo_wq_31, mo_wq_32, mo_wq_2] at *; omega)) (fun _ => ?_) (fun hb16 => absurd hb16 (by decide))
      refine mw_iconst dM_apply_23 ?_
      refine mw_iconst dM_apply_24 ?_
      refine mw_callV2 dM_apply_25 cM_110 (Nat.le_of_ble_eq_true rfl) (Nat.le_of_ble_eq_true rfl) rfl ?_
      refine mo_fails0 (by decide) ?_
      refine mw_if_ne (tgt := 54) dM_apply_28 (by decide) (by first | omega | (simp only [mo_uz_1, mo_uz_2, mo_uf_1, mo_uf_2, mo_uf_22, mo_ug_1, mo_ug_2, mo_ug_22, mo_len, Nat.reduceEqDiff, false_and, true_and, and_true, and_false, if_false, if_true, reduceIte, ite_true, ite_false, ne_eq, not_true_eq_false, not_false_eq_true, mo_ff_l, mo_ff_f, mo_ff_2, mo_ff_12, mo_ff_24, mo_wq_1, mo_wq_31, mo_wq_32, mo_wq_2] at *; omega)) (fun hb28 => absurd hb28 (by decide)) (fun _ => ?_)
      refine mw_aload_n dM_apply_31 rfl ?_
      refine mw_aload_n dM_apply_32 rfl ?_
      refine mw_get dM_apply_33 fM_49 rfl ?_
      refine mw_iload_n dM_apply_36 rfl ?_
      refine mw_iald dM_apply_37 rfl rfl (by first | omega | (simp only [mo_uz_1, mo_uz_2, mo_uf_1, mo_uf_2, mo_uf_22, mo_ug_1, mo_ug_2, mo_ug_22, mo_len, Nat.reduceEqDiff, false_and, true_and, and_true, and_false, if_false, if_true, reduceIte, ite_true, ite_false, ne_eq, not_true_eq_false, not_false_eq_true, mo_ff_l, mo_ff_f, mo_ff_2, mo_ff_12, mo_ff_24, mo_wq_1, mo_wq_31, mo_wq_32, mo_wq_2] at *; omega)) (by first | omega | (simp only [mo_uz_1, mo_uz_2, mo_uf_1, mo_uf_2, mo_uf_22, mo_ug_1, mo_ug_2, mo_ug_22, mo_len, Nat.reduceEqDiff, false_and, true_and, and_true, and_false, if_false, if_true, reduceIte, ite_true, ite_false, ne_eq, not_true_eq_false, not_false_eq_true, mo_ff_l, mo_ff_f, mo_ff_2, mo_ff_12, mo_ff_24, mo_wq_1, mo_wq_31, mo_wq_32, mo_wq_2] at *; omega)) (fun hv37 => ?_)
      refine mw_iconst dM_apply_38 ?_
      refine mw_icmp_eq (tgt := 46) dM_apply_39 (by decide) (by first | omega | (simp only [mo_uz_1, mo_uz_2, mo_uf_1, mo_uf_2, mo_uf_22, mo_ug_1, mo_ug_2, mo_ug_22, mo_len, Nat.reduceEqDiff, false_and, true_and, and_true, and_false, if_false, if_true, reduceIte, ite_true, ite_false, ne_eq, not_true_eq_false, not_false_eq_true, mo_ff_l, mo_ff_f, mo_ff_2, mo_ff_12, mo_ff_24, mo_wq_1, mo_wq_31, mo_wq_32, mo_wq_2] at *; omega)) (by first | omega | (simp only [mo_uz_1, mo_uz_2, mo_uf_1, mo_uf_2, mo_uf_22, mo_ug_1, mo_ug_2, mo_ug_22, mo_len, Nat.reduceEqDiff, false_and, true_and, and_true, and_false, if_false, if_true, reduceIte, ite_true, ite_false, ne_eq, not_true_eq_false, not_false_eq_true, mo_ff_l, mo_ff_f, mo_ff_2, mo_ff_12, mo_ff_24, mo_wq_1, mo_wq_31, mo_wq_32, mo_wq_2] at *; omega)) (fun hb39 => ?_) (fun hb39 => ?_)
      · refine mw_iconst dM_apply_46 ?_
        refine mw_iconst dM_apply_47 ?_
        refine mw_callV2 dM_apply_48 cM_110 (Nat.le_of_ble_eq_true rfl) (Nat.le_of_ble_eq_true rfl) rfl ?_
        refine mo_fails0 (by decide) ?_
        refine mw_if_eq (tgt := 56) dM_apply_51 (by decide) (by first | omega | (simp only [mo_uz_1, mo_uz_2, mo_uf_1, mo_uf_2, mo_uf_22, mo_ug_1, mo_ug_2, mo_ug_22, mo_len, Nat.reduceEqDiff, false_and, true_and, and_true, and_false, if_false, if_true, reduceIte, ite_true, ite_false, ne_eq, not_true_eq_false, not_false_eq_true, mo_ff_l, mo_ff_f, mo_ff_2, mo_ff_12, mo_ff_24, mo_wq_1, mo_wq_31, mo_wq_32, mo_wq_2] at *; omega)) (fun _ => ?_) (fun hb51 => absurd hb51 (by decide))
        refine mw_aload_n dM_apply_56 rfl ?_
        refine mw_aload_n dM_apply_57 rfl ?_
        refine mw_get dM_apply_58 fM_73 rfl ?_
        refine mw_iconst dM_apply_61 ?_
        refine mw_iload_n dM_apply_62 rfl ?_
        refine mw_imul dM_apply_63 ?_
        refine mw_iconst dM_apply_64 ?_
        refine mw_iadd dM_apply_65 ?_
        refine mw_iald dM_apply_66 rfl rfl (by first | omega | (simp only [mo_uz_1, mo_uz_2, mo_uf_1, mo_uf_2, mo_uf_22, mo_ug_1, mo_ug_2, mo_ug_22, mo_len, Nat.reduceEqDiff, false_and, true_and, and_true, and_false, if_false, if_true, reduceIte, ite_true, ite_false, ne_eq, not_true_eq_false, not_false_eq_true, mo_ff_l, mo_ff_f, mo_ff_2, mo_ff_12, mo_ff_24, mo_wq_1, mo_wq_31, mo_wq_32, mo_wq_2] at *; omega)) (by first | omega | (simp only [mo_uz_1, mo_uz_2, mo_uf_1, mo_uf_2, mo_uf_22, mo_ug_1, mo_ug_2, mo_ug_22, mo_len, Nat.reduceEqDiff, false_and, true_and, and_true, and_false, if_false, if_true, reduceIte, ite_true, ite_false, ne_eq, not_true_eq_false, not_false_eq_true, mo_ff_l, mo_ff_f, mo_ff_2, mo_ff_12, mo_ff_24, mo_wq_1, mo_wq_31, mo_wq_32, mo_wq_2] at *; omega)) (fun hv66 => ?_)
        refine mw_iload_n dM_apply_67 rfl ?_
        refine mw_callV2 dM_apply_68 cM_181 (Nat.le_of_ble_eq_true rfl) (Nat.le_of_ble_eq_true rfl) rfl ?_
        rw [mo_uz_uz]
        obtain ⟨n, r0, ⟨g1, g2⟩, g3, g4, g5⟩ := hgo (by first | omega | (simp only [mo_uz_1, mo_uz_2, mo_uf_1, mo_uf_2, mo_uf_22, mo_ug_1, mo_ug_2, mo_ug_22, mo_len, Nat.reduceEqDiff, false_and, true_and, and_true, and_false, if_false, if_true, reduceIte, ite_true, ite_false, ne_eq, not_true_eq_false, not_false_eq_true, mo_ff_l, mo_ff_f, mo_ff_2, mo_ff_12, mo_ff_24, mo_wq_1, mo_wq_31, mo_wq_32, mo_wq_2] at *; omega)) (by first | assumption | (simp only [mo_uz_1, mo_uz_2, mo_uf_1, mo_uf_2, mo_uf_22, mo_ug_1, mo_ug_2, mo_ug_22, mo_len, Nat.reduceEqDiff, false_and, true_and, and_true, and_false, if_false, if_true, reduceIte, ite_true, ite_false, ne_eq, not_true_eq_false, not_false_eq_true, mo_ff_l, mo_ff_f, mo_ff_2, mo_ff_12, mo_ff_24, mo_wq_1, mo_wq_31, mo_wq_32, mo_wq_2] at *; omega))
        refine mo_describedFrom (s := mo_uz s 0 0) (n := n) (r := r0) (by first | omega | (simp only [mo_uz_1, mo_uz_2, mo_uf_1, mo_uf_2, mo_uf_22, mo_ug_1, mo_ug_2, mo_ug_22, mo_len, Nat.reduceEqDiff, false_and, true_and, and_true, and_false, if_false, if_true, reduceIte, ite_true, ite_false, ne_eq, not_true_eq_false, not_false_eq_true, mo_ff_l, mo_ff_f, mo_ff_2, mo_ff_12, mo_ff_24, mo_wq_1, mo_wq_31, mo_wq_32, mo_wq_2] at *; omega)) g1 g2 (fun v hvb e1 e2 => ?_) (fun o v e1 e2 => ?_) (fun o v e1 e2 e3 => ?_)
        · have e2 : v < 0 := e2
          refine mw_istore_n dM_apply_71 (by decide) rfl ?_
          refine mw_iload_n dM_apply_72 rfl ?_
          refine mw_if_ge (tgt := 78) dM_apply_73 (by decide) (by omega) (fun hb73 => ?_) (fun hb73 => ?_)
          · first
              | (exfalso; omega)
              | (refine mw_aload_n dM_apply_78 rfl ?_
                 refine mw_iload_n dM_apply_79 rfl ?_
                 refine mw_iload_n dM_apply_80 rfl ?_
                 refine mw_callV2 dM_apply_81 cM_175 (Nat.le_of_ble_eq_true rfl) (Nat.le_of_ble_eq_true rfl) rfl ?_
                 refine mo_loads (s := mo_uz s 0 0) (n := n) (r := r) (by first | omega | (simp only [mo_uz_1, mo_uz_2, mo_uf_1, mo_uf_2, mo_uf_22, mo_ug_1, mo_ug_2, mo_ug_22, mo_len, Nat.reduceEqDiff, false_and, true_and, and_true, and_false, if_false, if_true, reduceIte, ite_true, ite_false, ne_eq, not_true_eq_false, not_false_eq_true, mo_ff_l, mo_ff_f, mo_ff_2, mo_ff_12, mo_ff_24, mo_wq_1, mo_wq_31, mo_wq_32, mo_wq_2] at *; omega)) hku h24 g1 hv k1 (fun e x y f g => ?_) (fun e x y f g => ?_) (fun e x y f g => ?_)
                 · refine mw_istore dM_apply_84 (by decide) rfl ?_
                   refine mw_aload_n dM_apply_86 rfl ?_
                   refine mw_getI dM_apply_87 fM_103 rfl (fun hv87 => ?_)
                   refine mw_if_le (tgt := 95) dM_apply_90 (by decide) (show iB _ from by first | exact (by decide : iB 3) | exact (by decide : iB 4) | exact (by decide : iB 0)) (fun hb90 => ?_) (fun hb90 => ?_)
                   · first | (exfalso; have z : (3 : Int) ≤ 0 := hb90; omega) | (exfalso; have z : (4 : Int) ≤ 0 := hb90; omega) | exact k4 e x y f g
                   · refine mw_iconst dM_apply_93 ?_
                     refine mw_iret dM_apply_94 rfl ?_
                     first | exact k2 e x y f g | exact k3 e x y f g | (exfalso; have z : (0 : Int) < 0 := hb90; omega)
                 · refine mw_istore dM_apply_84 (by decide) rfl ?_
                   refine mw_aload_n dM_apply_86 rfl ?_
                   refine mw_getI dM_apply_87 fM_103 rfl (fun hv87 => ?_)
                   refine mw_if_le (tgt := 95) dM_apply_90 (by decide) (show iB _ from by first | exact (by decide : iB 3) | exact (by decide : iB 4) | exact (by decide : iB 0)) (fun hb90 => ?_) (fun hb90 => ?_)
                   · first | (exfalso; have z : (3 : Int) ≤ 0 := hb90; omega) | (exfalso; have z : (4 : Int) ≤ 0 := hb90; omega) | exact k4 e x y f g
                   · refine mw_iconst dM_apply_93 ?_
                     refine mw_iret dM_apply_94 rfl ?_
                     first | exact k2 e x y f g | exact k3 e x y f g | (exfalso; have z : (0 : Int) < 0 := hb90; omega)
                 · refine mw_istore dM_apply_84 (by decide) rfl ?_
                   refine mw_aload_n dM_apply_86 rfl ?_
                   refine mw_getI dM_apply_87 fM_103 rfl (fun hv87 => ?_)
                   refine mw_if_le (tgt := 95) dM_apply_90 (by decide) (show iB _ from by first | exact (by decide : iB 3) | exact (by decide : iB 4) | exact (by decide : iB 0)) (fun hb90 => ?_) (fun hb90 => ?_)
                   · first | (exfalso; have z : (3 : Int) ≤ 0 := hb90; omega) | (exfalso; have z : (4 : Int) ≤ 0 := hb90; omega) | exact k4 e x y f g
                   · refine mw_iconst dM_apply_93 ?_
                     refine mw_iret dM_apply_94 rfl ?_
                     first | exact k2 e x y f g | exact k3 e x y f g | (exfalso; have z : (0 : Int) < 0 := hb90; omega))
          · refine mw_iconst dM_apply_76 ?_
            refine mw_iret dM_apply_77 rfl ?_
            first | exact g3 e1 | exact g4 o v e1 (by omega) | exact g4 o v e1 (fun z => z.elim (fun q => by omega) e3) | (exfalso; omega)
        · obtain ⟨hv, r, k1, k2, k3, k4⟩ := g5 o v e1 e2
          refine mw_istore_n dM_apply_71 (by decide) rfl ?_
          refine mw_iload_n dM_apply_72 rfl ?_
          refine mw_if_ge (tgt := 78) dM_apply_73 (by decide) (by omega) (fun hb73 => ?_) (fun hb73 => ?_)
          · first
              | (exfalso; omega)
              | (refine mw_aload_n dM_apply_78 rfl ?_
                 refine mw_iload_n dM_apply_79 rfl ?_
                 refine mw_iload_n dM_apply_80 rfl ?_
                 refine mw_callV2 dM_apply_81 cM_175 (Nat.le_of_ble_eq_true rfl) (Nat.le_of_ble_eq_true rfl) rfl ?_
                 refine mo_loads (s := mo_uz s 0 0) (n := n) (r := r) (by first | omega | (simp only [mo_uz_1, mo_uz_2, mo_uf_1, mo_uf_2, mo_uf_22, mo_ug_1, mo_ug_2, mo_ug_22, mo_len, Nat.reduceEqDiff, false_and, true_and, and_true, and_false, if_false, if_true, reduceIte, ite_true, ite_false, ne_eq, not_true_eq_false, not_false_eq_true, mo_ff_l, mo_ff_f, mo_ff_2, mo_ff_12, mo_ff_24, mo_wq_1, mo_wq_31, mo_wq_32, mo_wq_2] at *; omega)) hku h24 g1 hv k1 (fun e x y f g => ?_) (fun e x y f g => ?_) (fun e x y f g => ?_)
                 · refine mw_istore dM_apply_84 (by decide) rfl ?_
                   refine mw_aload_n dM_apply_86 rfl ?_
                   refine mw_getI dM_apply_87 fM_103 rfl (fun hv87 => ?_)
                   refine mw_if_le (tgt := 95) dM_apply_90 (by decide) (show iB _ from by first | exact (by decide : iB 3) | exact (by decide : iB 4) | exact (by decide : iB 0)) (fun hb90 => ?_) (fun hb90 => ?_)
                   · first | (exfalso; have z : (3 : Int) ≤ 0 := hb90; omega) | (exfalso; have z : (4 : Int) ≤ 0 := hb90; omega) | exact k4 e x y f g
                   · refine mw_iconst dM_apply_93 ?_
                     refine mw_iret dM_apply_94 rfl ?_
                     first | exact k2 e x y f g | exact k3 e x y f g | (exfalso; have z : (0 : Int) < 0 := hb90; omega)
                 · refine mw_istore dM_apply_84 (by decide) rfl ?_
                   refine mw_aload_n dM_apply_86 rfl ?_
                   refine mw_getI dM_apply_87 fM_103 rfl (fun hv87 => ?_)
                   refine mw_if_le (tgt := 95) dM_apply_90 (by decide) (show iB _ from by first | exact (by decide : iB 3) | exact (by decide : iB 4) | exact (by decide : iB 0)) (fun hb90 => ?_) (fun hb90 => ?_)
                   · first | (exfalso; have z : (3 : Int) ≤ 0 := hb90; omega) | (exfalso; have z : (4 : Int) ≤ 0 := hb90; omega) | exact k4 e x y f g
                   · refine mw_iconst dM_apply_93 ?_
                     refine mw_iret dM_apply_94 rfl ?_
                     first | exact k2 e x y f g | exact k3 e x y f g | (exfalso; have z : (0 : Int) < 0 := hb90; omega)
                 · refine mw_istore dM_apply_84 (by decide) rfl ?_
                   refine mw_aload_n dM_apply_86 rfl ?_
                   refine mw_getI dM_apply_87 fM_103 rfl (fun hv87 => ?_)
                   refine mw_if_le (tgt := 95) dM_apply_90 (by decide) (show iB _ from by first | exact (by decide : iB 3) | exact (by decide : iB 4) | exact (by decide : iB 0)) (fun hb90 => ?_) (fun hb90 => ?_)
                   · first | (exfalso; have z : (3 : Int) ≤ 0 := hb90; omega) | (exfalso; have z : (4 : Int) ≤ 0 := hb90; omega) | exact k4 e x y f g
                   · refine mw_iconst dM_apply_93 ?_
                     refine mw_iret dM_apply_94 rfl ?_
                     first | exact k2 e x y f g | exact k3 e x y f g | (exfalso; have z : (0 : Int) < 0 := hb90; omega))
          · refine mw_iconst dM_apply_76 ?_
            refine mw_iret dM_apply_77 rfl ?_
            first | exact g3 e1 | exact g4 o v e1 (by omega) | exact g4 o v e1 (fun z => z.elim (fun q => by omega) e3) | (exfalso; omega)
        · refine mw_istore_n dM_apply_71 (by decide) rfl ?_
          refine mw_iload_n dM_apply_72 rfl ?_
          refine mw_if_ge (tgt := 78) dM_apply_73 (by decide) (by omega) (fun hb73 => ?_) (fun hb73 => ?_)
          · first
              | (exfalso; omega)
              | (refine mw_aload_n dM_apply_78 rfl ?_
                 refine mw_iload_n dM_apply_79 rfl ?_
                 refine mw_iload_n dM_apply_80 rfl ?_
                 refine mw_callV2 dM_apply_81 cM_175 (Nat.le_of_ble_eq_true rfl) (Nat.le_of_ble_eq_true rfl) rfl ?_
                 refine mo_loads (s := mo_uz s 0 0) (n := n) (r := r) (by first | omega | (simp only [mo_uz_1, mo_uz_2, mo_uf_1, mo_uf_2, mo_uf_22, mo_ug_1, mo_ug_2, mo_ug_22, mo_len, Nat.reduceEqDiff, false_and, true_and, and_true, and_false, if_false, if_true, reduceIte, ite_true, ite_false, ne_eq, not_true_eq_false, not_false_eq_true, mo_ff_l, mo_ff_f, mo_ff_2, mo_ff_12, mo_ff_24, mo_wq_1, mo_wq_31, mo_wq_32, mo_wq_2] at *; omega)) hku h24 g1 hv k1 (fun e x y f g => ?_) (fun e x y f g => ?_) (fun e x y f g => ?_)
                 · refine mw_istore dM_apply_84 (by decide) rfl ?_
                   refine mw_aload_n dM_apply_86 rfl ?_
                   refine mw_getI dM_apply_87 fM_103 rfl (fun hv87 => ?_)
                   refine mw_if_le (tgt := 95) dM_apply_90 (by decide) (show iB _ from by first | exact (by decide : iB 3) | exact (by decide : iB 4) | exact (by decide : iB 0)) (fun hb90 => ?_) (fun hb90 => ?_)
                   · first | (exfalso; have z : (3 : Int) ≤ 0 := hb90; omega) | (exfalso; have z : (4 : Int) ≤ 0 := hb90; omega) | exact k4 e x y f g
                   · refine mw_iconst dM_apply_93 ?_
                     refine mw_iret dM_apply_94 rfl ?_
                     first | exact k2 e x y f g | exact k3 e x y f g | (exfalso; have z : (0 : Int) < 0 := hb90; omega)
                 · refine mw_istore dM_apply_84 (by decide) rfl ?_
                   refine mw_aload_n dM_apply_86 rfl ?_
                   refine mw_getI dM_apply_87 fM_103 rfl (fun hv87 => ?_)
                   refine mw_if_le (tgt := 95) dM_apply_90 (by decide) (show iB _ from by first | exact (by decide : iB 3) | exact (by decide : iB 4) | exact (by decide : iB 0)) (fun hb90 => ?_) (fun hb90 => ?_)
                   · first | (exfalso; have z : (3 : Int) ≤ 0 := hb90; omega) | (exfalso; have z : (4 : Int) ≤ 0 := hb90; omega) | exact k4 e x y f g
                   · refine mw_iconst dM_apply_93 ?_
                     refine mw_iret dM_apply_94 rfl ?_
                     first | exact k2 e x y f g | exact k3 e x y f g | (exfalso; have z : (0 : Int) < 0 := hb90; omega)
                 · refine mw_istore dM_apply_84 (by decide) rfl ?_
                   refine mw_aload_n dM_apply_86 rfl ?_
                   refine mw_getI dM_apply_87 fM_103 rfl (fun hv87 => ?_)
                   refine mw_if_le (tgt := 95) dM_apply_90 (by decide) (show iB _ from by first | exact (by decide : iB 3) | exact (by decide : iB 4) | exact (by decide : iB 0)) (fun hb90 => ?_) (fun hb90 => ?_)
                   · first | (exfalso; have z : (3 : Int) ≤ 0 := hb90; omega) | (exfalso; have z : (4 : Int) ≤ 0 := hb90; omega) | exact k4 e x y f g
                   · refine mw_iconst dM_apply_93 ?_
                     refine mw_iret dM_apply_94 rfl ?_
                     first | exact k2 e x y f g | exact k3 e x y f g | (exfalso; have z : (0 : Int) < 0 := hb90; omega))
          · refine mw_iconst dM_apply_76 ?_
            refine mw_iret dM_apply_77 rfl ?_
            first | exact g3 e1 | exact g4 o v e1 (by omega) | exact g4 o v e1 (fun z => z.elim (fun q => by omega) e3) | (exfalso; omega)
      · refine mw_iconst dM_apply_42 ?_
        refine mw_goto (tgt := 47) dM_apply_43 (by decide) ?_
        refine mw_iconst dM_apply_47 ?_
        refine mw_callV2 dM_apply_48 cM_110 (Nat.le_of_ble_eq_true rfl) (Nat.le_of_ble_eq_true rfl) rfl ?_
        refine mo_fails1 (by decide) ?_
        refine mw_if_eq (tgt := 56) dM_apply_51 (by decide) (by first | omega | (simp only [mo_uz_1, mo_uz_2, mo_uf_1, mo_uf_2, mo_uf_22, mo_ug_1, mo_ug_2, mo_ug_22, mo_len, Nat.reduceEqDiff, false_and, true_and, and_true, and_false, if_false, if_true, reduceIte, ite_true, ite_false, ne_eq, not_true_eq_false, not_false_eq_true, mo_ff_l, mo_ff_f, mo_ff_2, mo_ff_12, mo_ff_24, mo_wq_1, mo_wq_31, mo_wq_32, mo_wq_2] at *; omega)) (fun hb51 => absurd hb51 (by decide)) (fun _ => ?_)
        refine mw_iconst dM_apply_54 ?_
        refine mw_iret dM_apply_55 rfl ?_
        first | exact hbad (by first | omega | (simp only [mo_uz_1, mo_uz_2, mo_uf_1, mo_uf_2, mo_uf_22, mo_ug_1, mo_ug_2, mo_ug_22, mo_len, Nat.reduceEqDiff, false_and, true_and, and_true, and_false, if_false, if_true, reduceIte, ite_true, ite_false, ne_eq, not_true_eq_false, not_false_eq_true, mo_ff_l, mo_ff_f, mo_ff_2, mo_ff_12, mo_ff_24, mo_wq_1, mo_wq_31, mo_wq_32, mo_wq_2] at *; omega)) | (rw [mo_uz_uz]; exact hst (by first | omega | (simp only [mo_uz_1, mo_uz_2, mo_uf_1, mo_uf_2, mo_uf_22, mo_ug_1, mo_ug_2, mo_ug_22, mo_len, Nat.reduceEqDiff, false_and, true_and, and_true, and_false, if_false, if_true, reduceIte, ite_true, ite_false, ne_eq, not_true_eq_false, not_false_eq_true, mo_ff_l, mo_ff_f, mo_ff_2, mo_ff_12, mo_ff_24, mo_wq_1, mo_wq_31, mo_wq_32, mo_wq_2] at *; omega)) (by first | omega | (simp only [mo_uz_1, mo_uz_2, mo_uf_1, mo_uf_2, mo_uf_22, mo_ug_1, mo_ug_2, mo_ug_22, mo_len, Nat.reduceEqDiff, false_and, true_and, and_true, and_false, if_false, if_true, reduceIte, ite_true, ite_false, ne_eq, not_true_eq_false, not_false_eq_true, mo_ff_l, mo_ff_f, mo_ff_2, mo_ff_12, mo_ff_24, mo_wq_1, mo_wq_31, mo_wq_32, mo_wq_2] at *; omega)))
    · refine mw_if_ne (tgt := 23) dM_apply_16 (by decide) (by first | omega | (simp only [mo_uz_1, mo_uz_2, mo_uf_1, mo_uf_2, mo_uf_22, mo_ug_1, mo_ug_2, mo_ug_22, mo_len, Nat.reduceEqDiff, false_and, true_and, and_true, and_false, if_false, if_true, reduceIte, ite_true, ite_false, ne_eq, not_true_eq_false, not_false_eq_true, mo_ff_l, mo_ff_f, mo_ff_2, mo_ff_12, mo_ff_24, mo_wq_1, mo_wq_31, mo_wq_32, mo_wq_2] at *; omega)) (fun hb16 => absurd hb16 (by decide)) (fun _ => ?_)
      refine mw_iconst dM_apply_19 ?_
      refine mw_goto (tgt := 24) dM_apply_20 (by decide) ?_
      refine mw_iconst dM_apply_24 ?_
      refine mw_callV2 dM_apply_25 cM_110 (Nat.le_of_ble_eq_true rfl) (Nat.le_of_ble_eq_true rfl) rfl ?_
      refine mo_fails1 (by decide) ?_
      refine mw_if_ne (tgt := 54) dM_apply_28 (by decide) (by first | omega | (simp only [mo_uz_1, mo_uz_2, mo_uf_1, mo_uf_2, mo_uf_22, mo_ug_1, mo_ug_2, mo_ug_22, mo_len, Nat.reduceEqDiff, false_and, true_and, and_true, and_false, if_false, if_true, reduceIte, ite_true, ite_false, ne_eq, not_true_eq_false, not_false_eq_true, mo_ff_l, mo_ff_f, mo_ff_2, mo_ff_12, mo_ff_24, mo_wq_1, mo_wq_31, mo_wq_32, mo_wq_2] at *; omega)) (fun _ => ?_) (fun hb28 => absurd hb28 (by decide))
      refine mw_iconst dM_apply_54 ?_
      refine mw_iret dM_apply_55 rfl ?_
      first | exact hbad (by first | omega | (simp only [mo_uz_1, mo_uz_2, mo_uf_1, mo_uf_2, mo_uf_22, mo_ug_1, mo_ug_2, mo_ug_22, mo_len, Nat.reduceEqDiff, false_and, true_and, and_true, and_false, if_false, if_true, reduceIte, ite_true, ite_false, ne_eq, not_true_eq_false, not_false_eq_true, mo_ff_l, mo_ff_f, mo_ff_2, mo_ff_12, mo_ff_24, mo_wq_1, mo_wq_31, mo_wq_32, mo_wq_2] at *; omega)) | (rw [mo_uz_uz]; exact hst (by first | omega | (simp only [mo_uz_1, mo_uz_2, mo_uf_1, mo_uf_2, mo_uf_22, mo_ug_1, mo_ug_2, mo_ug_22, mo_len, Nat.reduceEqDiff, false_and, true_and, and_true, and_false, if_false, if_true, reduceIte, ite_true, ite_false, ne_eq, not_true_eq_false, not_false_eq_true, mo_ff_l, mo_ff_f, mo_ff_2, mo_ff_12, mo_ff_24, mo_wq_1, mo_wq_31, mo_wq_32, mo_wq_2] at *; omega)) (by first | omega | (simp only [mo_uz_1, mo_uz_2, mo_uf_1, mo_uf_2, mo_uf_22, mo_ug_1, mo_ug_2, mo_ug_22, mo_len, Nat.reduceEqDiff, false_and, true_and, and_true, and_false, if_false, if_true, reduceIte, ite_true, ite_false, ne_eq, not_true_eq_false, not_false_eq_true, mo_ff_l, mo_ff_f, mo_ff_2, mo_ff_12, mo_ff_24, mo_wq_1, mo_wq_31, mo_wq_32, mo_wq_2] at *; omega)))

end MO14
