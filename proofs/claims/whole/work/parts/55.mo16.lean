/-! the reference: lock -/
section MO16
variable {G : aw_G} {b : Nat} {ad : Nat → Nat} {d : Nat} {Q : aw_O → mo_S → Prop} {s : mo_S} {kc ks : Nat}
/-- what defining comes to -/
def mo_dR (s : mo_S) (f n p l : Int) (s' : mo_S) : Prop := (n = 0 ∧ l = p ∧ s' = s) ∨ (¬ n = 0 ∧ (1 ≤ l ∧ l ≤ 40) ∧ (∀ j, 1 ≤ j → j < l → ¬ mo_dm s f n p j) ∧ mo_dm s f n p l ∧ s' = s) ∨ (¬ n = 0 ∧ (∀ j, 1 ≤ j → j ≤ 40 → ¬ mo_dm s f n p j) ∧ ((1 ≤ l ∧ l ≤ 40) ∧ s.2.1 5 l = 0 ∧ ∀ j, 1 ≤ j → j < l → ¬ s.2.1 5 j = 0) ∧ s' = mo_newd s f n p l)
/-- what filtering comes to -/
def mo_fR (s : mo_S) (c p l : Int) (s' : mo_S) : Prop := (s.2.1 17 c = 0 ∧ l = p ∧ s' = s) ∨ (¬ s.2.1 17 c = 0 ∧ (1 ≤ l ∧ l ≤ 40) ∧ (∀ j, 1 ≤ j → j < l → ¬ mo_fm s c p j) ∧ mo_fm s c p l ∧ s' = s) ∨ (¬ s.2.1 17 c = 0 ∧ (∀ j, 1 ≤ j → j ≤ 40 → ¬ mo_fm s c p j) ∧ ((1 ≤ l ∧ l ≤ 40) ∧ s.2.1 5 l = 0 ∧ ∀ j, 1 ≤ j → j < l → ¬ s.2.1 5 j = 0) ∧ s' = mo_newf s c p l)
/-- what both keep -/
def mo_kp (s s' : mo_S) : Prop := mo_SL s' ∧ (∀ k, 12 ≤ k → s'.2.1 k = s.2.1 k ∧ s'.2.2 k = s.2.2 k) ∧ s'.1 = s.1 ∧ mo_fr (s.2.1 5) 40 ≤ mo_fr (s'.2.1 5) 40 + 1
theorem mo_kp_rf {s : mo_S} (h : mo_SL s) : mo_kp s s := ⟨h, fun _ _ => ⟨rfl, rfl⟩, rfl, by omega⟩
theorem mo_dR_k {s s' : mo_S} {f n p l : Int} (hs : mo_SL s) (hn : 0 ≤ n ∧ n ≤ 4) (hp : ∀ i, 0 ≤ i → i < n → 0 ≤ s.2.1 15 (f + i) ∧ s.2.1 15 (f + i) ≤ 9) (h : mo_dR s f n p l s') : mo_kp s s' ∧ (l = p ∨ (1 ≤ l ∧ l ≤ 40)) := by
  rcases h with ⟨_, e, h⟩ | ⟨_, e, _, _, h⟩ | ⟨_, _, hf, h⟩
  · subst h; exact ⟨mo_kp_rf hs, Or.inl e⟩
  · subst h; exact ⟨mo_kp_rf hs, Or.inr e⟩
  · subst h
    have hm := mo_newd_m (f := f) (p := p) hf hn
    have h9 := mo_more_fr hm
    exact ⟨⟨mo_newd_SL hf hn hp hs, hm.2.2.2.2.2.1, hm.2.2.2.2.2.2, by omega⟩, Or.inr hf.1⟩
theorem mo_fR_k {s s' : mo_S} {c p l : Int} (hs : mo_SL s) (h : mo_fR s c p l s') : mo_kp s s' ∧ (l = p ∨ (1 ≤ l ∧ l ≤ 40)) := by
  rcases h with ⟨_, e, h⟩ | ⟨_, e, _, _, h⟩ | ⟨_, _, hf, h⟩
  · subst h; exact ⟨mo_kp_rf hs, Or.inl e⟩
  · subst h; exact ⟨mo_kp_rf hs, Or.inr e⟩
  · subst h
    have hm := mo_newf_m (c := c) (p := p) hf
    have h9 := mo_more_fr hm
    exact ⟨⟨mo_newf_SL hf hs, hm.2.2.2.2.2.1, hm.2.2.2.2.2.2, by omega⟩, Or.inr hf.1⟩
theorem mo_defR {c w p : Int} (hc : 0 ≤ c ∧ c ≤ 11) (hw : w = 0 ∨ w = 1) (hp : iB p) (hs : mo_SL s) (hn : 0 ≤ s.2.1 16 (2 * c + w) ∧ s.2.1 16 (2 * c + w) ≤ 4) (hpv : ∀ i, 0 ≤ i → i < s.2.1 16 (2 * c + w) → 0 ≤ s.2.1 15 (8 * c + 4 * w + i) ∧ s.2.1 15 (8 * c + 4 * w + i) ≤ 9) (hf : 1 ≤ mo_fr (s.2.1 5) 40) (hq : ∀ l s', mo_dR s (8 * c + 4 * w) (s.2.1 16 (2 * c + w)) p l s' → Q (.inl (some (.int (iI l)))) s') : mw G b ad mM_defining (d + 1 + 1) Q 0 [some (.ref b), some (.int (iI c)), some (.int (iI w)), some (.int (iI p)), none, none, none, none, none] [] s kc ks := by
  refine mo_defining hc hw hp hn hpv (mo_SL_u hs).1 (mo_SL_u hs).2 (mo_fr_ex _ 40 hf) (fun e => hq _ _ (Or.inl ⟨e, rfl, rfl⟩)) (fun e l h1 h2 h3 h4 => hq _ _ (Or.inr (Or.inl ⟨e, ⟨h1, h2⟩, h3, h4, rfl⟩))) (fun e h0 l h1 h2 h3 h4 => hq _ _ (Or.inr (Or.inr ⟨e, h0, ⟨⟨h1, h2⟩, h4, h3⟩, rfl⟩)))
theorem mo_filR {c p : Int} (hc : 0 ≤ c ∧ c ≤ 11) (hp : iB p) (hf : 1 ≤ mo_fr (s.2.1 5) 40) (hq : ∀ l s', mo_fR s c p l s' → Q (.inl (some (.int (iI l)))) s') : mw G b ad mM_filtering (d + 1 + 1) Q 0 [some (.ref b), some (.int (iI c)), some (.int (iI p)), none] [] s kc ks := by
  refine mo_filtering hc hp (mo_fr_ex _ 40 hf) (fun e => hq _ _ (Or.inl ⟨e, rfl, rfl⟩)) (fun e l h1 h2 h3 h4 => hq _ _ (Or.inr (Or.inl ⟨e, ⟨h1, h2⟩, h3, h4, rfl⟩))) (fun e h0 l h1 h2 h3 h4 => hq _ _ (Or.inr (Or.inr ⟨e, h0, ⟨⟨h1, h2⟩, h4, h3⟩, rfl⟩)))
theorem mo_lock_t {c : Int} (hc : 0 ≤ c ∧ c ≤ 11) (hab : 0 ≤ s.2.1 14 c ∧ s.2.1 14 c ≤ 11) (hs : mo_SL s) (hlen : ∀ w, w = 0 ∨ w = 1 → (0 ≤ s.2.1 16 (2 * c + w) ∧ s.2.1 16 (2 * c + w) ≤ 4) ∧ ∀ i, 0 ≤ i → i < s.2.1 16 (2 * c + w) → 0 ≤ s.2.1 15 (8 * c + 4 * w + i) ∧ s.2.1 15 (8 * c + 4 * w + i) ≤ 9) (hf : 3 ≤ mo_fr (s.2.1 5) 40) (hq : ∀ e s1 x s2 l s3, mo_dR s (8 * c + 4 * 1) (s.2.1 16 (2 * c + 1)) (s.2.1 21 (3 * s.2.1 14 c + 1)) e s1 → mo_fR s1 c e x s2 → mo_dR s2 (8 * c + 4 * 0) (s.2.1 16 (2 * c + 0)) e l s3 → Q (.inl (some (.int (iI l)))) (mo_uf (mo_uf (mo_uf (mo_uf s3 21 (3 * c) e) 21 (3 * c + 1) x) 21 (3 * c + 2) l) 13 c 1)) : mw G b ad mM_lock (d + 1 + 1 + 1) Q 73 [some (.ref b), some (.int (iI c)), none, none, none] [] s kc ks := by
  refine mw_aload_n dM_lock_73 rfl ?_
  refine mw_iload_n dM_lock_74 rfl ?_
  refine mw_iconst dM_lock_75 ?_
  refine mw_aload_n dM_lock_76 rfl ?_
  refine mw_get dM_lock_77 fM_73 rfl ?_
  refine mw_iconst dM_lock_80 ?_
  refine mw_aload_n dM_lock_81 rfl ?_
  refine mw_get dM_lock_82 fM_52 rfl ?_
  refine mw_iload_n dM_lock_85 rfl ?_
  refine mw_iald dM_lock_86 rfl rfl (by first | omega | (simp only [mo_uz_1, mo_uz_2, mo_uf_1, mo_uf_2, mo_uf_22, mo_ug_1, mo_ug_2, mo_ug_22, mo_len, Nat.reduceEqDiff, false_and, true_and, and_true, and_false, if_false, if_true, reduceIte, ite_true, ite_false, ne_eq, not_true_eq_false, not_false_eq_true] at *; omega)) (by first | omega | (simp only [mo_uz_1, mo_uz_2, mo_uf_1, mo_uf_2, mo_uf_22, mo_ug_1, mo_ug_2, mo_ug_22, mo_len, Nat.reduceEqDiff, false_and, true_and, and_true, and_false, if_false, if_true, reduceIte, ite_true, ite_false, ne_eq, not_true_eq_false, not_false_eq_true] at *; omega)) (fun hv86 => ?_)
  refine mw_imul dM_lock_87 ?_
  refine mw_iconst dM_lock_88 ?_
  refine mw_iadd dM_lock_89 ?_
  refine mw_iald dM_lock_90 rfl rfl (by first | omega | (simp only [mo_uz_1, mo_uz_2, mo_uf_1, mo_uf_2, mo_uf_22, mo_ug_1, mo_ug_2, mo_ug_22, mo_len, Nat.reduceEqDiff, false_and, true_and, and_true, and_false, if_false, if_true, reduceIte, ite_true, ite_false, ne_eq, not_true_eq_false, not_false_eq_true] at *; omega)) (by first | omega | (simp only [mo_uz_1, mo_uz_2, mo_uf_1, mo_uf_2, mo_uf_22, mo_ug_1, mo_ug_2, mo_ug_22, mo_len, Nat.reduceEqDiff, false_and, true_and, and_true, and_false, if_false, if_true, reduceIte, ite_true, ite_false, ne_eq, not_true_eq_false, not_false_eq_true] at *; omega)) (fun hv90 => ?_)
  refine mw_callV3 dM_lock_91 cM_147 (Nat.le_of_ble_eq_true rfl) (Nat.le_of_ble_eq_true rfl) rfl ?_
  refine mo_defR (s := s) hc (Or.inr rfl) hv90 hs (hlen 1 (Or.inr rfl)).1 (hlen 1 (Or.inr rfl)).2 (by omega) (fun e s1 r1 => ?_)
  obtain ⟨⟨hs1, ha1, hz1, hf1⟩, he1⟩ := mo_dR_k hs (hlen 1 (Or.inr rfl)).1 (hlen 1 (Or.inr rfl)).2 r1
  have heb : iB e := by
    rcases he1 with h | h
    · rw [h]; exact hv90
    · omega
  refine mw_istore_n dM_lock_94 (by decide) rfl ?_
  refine mw_aload_n dM_lock_95 rfl ?_
  refine mw_iload_n dM_lock_96 rfl ?_
  refine mw_iload_n dM_lock_97 rfl ?_
  refine mw_callV2 dM_lock_98 cM_151 (Nat.le_of_ble_eq_true rfl) (Nat.le_of_ble_eq_true rfl) rfl ?_
  refine mo_filR (s := s1) hc heb (by omega) (fun x s2 r2 => ?_)
  obtain ⟨⟨hs2, ha2, hz2, hf2⟩, he2⟩ := mo_fR_k hs1 r2
  have a15 : s2.2.1 15 = s.2.1 15 := ((ha2 15 (by decide)).1).trans (ha1 15 (by decide)).1
  have a16 : s2.2.1 16 = s.2.1 16 := ((ha2 16 (by decide)).1).trans (ha1 16 (by decide)).1
  have hxb : iB x := by
    rcases he2 with h | h
    · rw [h]; exact heb
    · omega
  refine mw_istore_n dM_lock_101 (by decide) rfl ?_
  refine mw_aload_n dM_lock_102 rfl ?_
  refine mw_iload_n dM_lock_103 rfl ?_
  refine mw_iconst dM_lock_104 ?_
  refine mw_iload_n dM_lock_105 rfl ?_
  refine mw_callV3 dM_lock_106 cM_147 (Nat.le_of_ble_eq_true rfl) (Nat.le_of_ble_eq_true rfl) rfl ?_
  refine mo_defR (s := s2) hc (Or.inl rfl) heb hs2 (by rw [a16]; exact (hlen 0 (Or.inl rfl)).1) (by rw [a16, a15]; exact (hlen 0 (Or.inl rfl)).2) (by omega) (fun l s3 r3 => ?_)
  rw [a16] at r3
  obtain ⟨⟨hs3, ha3, hz3, hf3⟩, he3⟩ := mo_dR_k hs2 (hlen 0 (Or.inl rfl)).1 (by rw [a15]; exact (hlen 0 (Or.inl rfl)).2) r3
  have hlb : iB l := by
    rcases he3 with h | h
    · rw [h]; exact heb
    · omega
  refine mw_istore dM_lock_109 (by decide) rfl ?_
  refine mw_aload_n dM_lock_111 rfl ?_
  refine mw_get dM_lock_112 fM_73 rfl ?_
  refine mw_iconst dM_lock_115 ?_
  refine mw_iload_n dM_lock_116 rfl ?_
  refine mw_imul dM_lock_117 ?_
  refine mw_iload_n dM_lock_118 rfl ?_
  refine mw_iast dM_lock_119 rfl rfl (by first | omega | (simp only [mo_uz_1, mo_uz_2, mo_uf_1, mo_uf_2, mo_uf_22, mo_ug_1, mo_ug_2, mo_ug_22, mo_len, Nat.reduceEqDiff, false_and, true_and, and_true, and_false, if_false, if_true, reduceIte, ite_true, ite_false, ne_eq, not_true_eq_false, not_false_eq_true] at *; omega)) (by first | omega | (simp only [mo_uz_1, mo_uz_2, mo_uf_1, mo_uf_2, mo_uf_22, mo_ug_1, mo_ug_2, mo_ug_22, mo_len, Nat.reduceEqDiff, false_and, true_and, and_true, and_false, if_false, if_true, reduceIte, ite_true, ite_false, ne_eq, not_true_eq_false, not_false_eq_true] at *; omega)) (by first | omega | (simp only [mo_uz_1, mo_uz_2, mo_uf_1, mo_uf_2, mo_uf_22, mo_ug_1, mo_ug_2, mo_ug_22, mo_len, Nat.reduceEqDiff, false_and, true_and, and_true, and_false, if_false, if_true, reduceIte, ite_true, ite_false, ne_eq, not_true_eq_false, not_false_eq_true] at *; omega)) ?_
  refine mw_aload_n dM_lock_120 rfl ?_
  refine mw_get dM_lock_121 fM_73 rfl ?_
  refine mw_iconst dM_lock_124 ?_
  refine mw_iload_n dM_lock_125 rfl ?_
  refine mw_imul dM_lock_126 ?_
  refine mw_iconst dM_lock_127 ?_
  refine mw_iadd dM_lock_128 ?_
  refine mw_iload_n dM_lock_129 rfl ?_
  refine mw_iast dM_lock_130 rfl rfl (by first | omega | (simp only [mo_uz_1, mo_uz_2, mo_uf_1, mo_uf_2, mo_uf_22, mo_ug_1, mo_ug_2, mo_ug_22, mo_len, Nat.reduceEqDiff, false_and, true_and, and_true, and_false, if_false, if_true, reduceIte, ite_true, ite_false, ne_eq, not_true_eq_false, not_false_eq_true] at *; omega)) (by first | omega | (simp only [mo_uz_1, mo_uz_2, mo_uf_1, mo_uf_2, mo_uf_22, mo_ug_1, mo_ug_2, mo_ug_22, mo_len, Nat.reduceEqDiff, false_and, true_and, and_true, and_false, if_false, if_true, reduceIte, ite_true, ite_false, ne_eq, not_true_eq_false, not_false_eq_true] at *; omega)) (by first | omega | (simp only [mo_uz_1, mo_uz_2, mo_uf_1, mo_uf_2, mo_uf_22, mo_ug_1, mo_ug_2, mo_ug_22, mo_len, Nat.reduceEqDiff, false_and, true_and, and_true, and_false, if_false, if_true, reduceIte, ite_true, ite_false, ne_eq, not_true_eq_false, not_false_eq_true] at *; omega)) ?_
  refine mw_aload_n dM_lock_131 rfl ?_
  refine mw_get dM_lock_132 fM_73 rfl ?_
  refine mw_iconst dM_lock_135 ?_
  refine mw_iload_n dM_lock_136 rfl ?_
  refine mw_imul dM_lock_137 ?_
  refine mw_iconst dM_lock_138 ?_
  refine mw_iadd dM_lock_139 ?_
  refine mw_iload dM_lock_140 rfl ?_
  refine mw_iast dM_lock_142 rfl rfl (by first | omega | (simp only [mo_uz_1, mo_uz_2, mo_uf_1, mo_uf_2, mo_uf_22, mo_ug_1, mo_ug_2, mo_ug_22, mo_len, Nat.reduceEqDiff, false_and, true_and, and_true, and_false, if_false, if_true, reduceIte, ite_true, ite_false, ne_eq, not_true_eq_false, not_false_eq_true] at *; omega)) (by first | omega | (simp only [mo_uz_1, mo_uz_2, mo_uf_1, mo_uf_2, mo_uf_22, mo_ug_1, mo_ug_2, mo_ug_22, mo_len, Nat.reduceEqDiff, false_and, true_and, and_true, and_false, if_false, if_true, reduceIte, ite_true, ite_false, ne_eq, not_true_eq_false, not_false_eq_true] at *; omega)) (by first | omega | (simp only [mo_uz_1, mo_uz_2, mo_uf_1, mo_uf_2, mo_uf_22, mo_ug_1, mo_ug_2, mo_ug_22, mo_len, Nat.reduceEqDiff, false_and, true_and, and_true, and_false, if_false, if_true, reduceIte, ite_true, ite_false, ne_eq, not_true_eq_false, not_false_eq_true] at *; omega)) ?_
  refine mw_aload_n dM_lock_143 rfl ?_
  refine mw_get dM_lock_144 fM_49 rfl ?_
  refine mw_iload_n dM_lock_147 rfl ?_
  refine mw_iconst dM_lock_148 ?_
  refine mw_iast dM_lock_149 rfl rfl (by first | omega | (simp only [mo_uz_1, mo_uz_2, mo_uf_1, mo_uf_2, mo_uf_22, mo_ug_1, mo_ug_2, mo_ug_22, mo_len, Nat.reduceEqDiff, false_and, true_and, and_true, and_false, if_false, if_true, reduceIte, ite_true, ite_false, ne_eq, not_true_eq_false, not_false_eq_true] at *; omega)) (by first | omega | (simp only [mo_uz_1, mo_uz_2, mo_uf_1, mo_uf_2, mo_uf_22, mo_ug_1, mo_ug_2, mo_ug_22, mo_len, Nat.reduceEqDiff, false_and, true_and, and_true, and_false, if_false, if_true, reduceIte, ite_true, ite_false, ne_eq, not_true_eq_false, not_false_eq_true] at *; omega)) (by first | omega | (simp only [mo_uz_1, mo_uz_2, mo_uf_1, mo_uf_2, mo_uf_22, mo_ug_1, mo_ug_2, mo_ug_22, mo_len, Nat.reduceEqDiff, false_and, true_and, and_true, and_false, if_false, if_true, reduceIte, ite_true, ite_false, ne_eq, not_true_eq_false, not_false_eq_true] at *; omega)) ?_
  refine mw_iload dM_lock_150 rfl ?_
  refine mw_iret dM_lock_152 rfl ?_
  exact hq e s1 x s2 l s3 r1 r2 r3
theorem mo_lock {c : Int} (hc : iB c) (h12 : 1 ≤ s.1 12 ∧ s.1 12 ≤ 12) (hab : 0 ≤ c → c < s.1 12 → s.2.1 13 c ≤ 0 → 0 ≤ s.2.1 14 c ∧ s.2.1 14 c ≤ 11) (hSL : mo_SL s) (hlen : 0 ≤ c → c < s.1 12 → ∀ w, w = 0 ∨ w = 1 → (0 ≤ s.2.1 16 (2 * c + w) ∧ s.2.1 16 (2 * c + w) ≤ 4) ∧ ∀ i, 0 ≤ i → i < s.2.1 16 (2 * c + w) → 0 ≤ s.2.1 15 (8 * c + 4 * w + i) ∧ s.2.1 15 (8 * c + 4 * w + i) ≤ 9) (hbad : ¬ (0 ≤ c ∧ c < s.1 12) → Q (.inl (some (.int (iI 0)))) (mo_uz s 0 1)) (hst : (0 ≤ c ∧ c < s.1 12) → ¬ (s.2.1 13 c ≤ 0 ∧ s.2.1 13 (s.2.1 14 c) = 1) → Q (.inl (some (.int (iI 0)))) (mo_uz s 0 2)) (hfull : (0 ≤ c ∧ c < s.1 12) → (s.2.1 13 c ≤ 0 ∧ s.2.1 13 (s.2.1 14 c) = 1) → mo_fr (s.2.1 5) 40 < 3 → Q (.inl (some (.int (iI 0)))) (mo_uz s 0 3)) (hq : (0 ≤ c ∧ c < s.1 12) → (s.2.1 13 c ≤ 0 ∧ s.2.1 13 (s.2.1 14 c) = 1) → 3 ≤ mo_fr (s.2.1 5) 40 → ∀ e s1 x s2 l s3, mo_dR (mo_uz s 0 0) (8 * c + 4 * 1) (s.2.1 16 (2 * c + 1)) (s.2.1 21 (3 * s.2.1 14 c + 1)) e s1 → mo_fR s1 c e x s2 → mo_dR s2 (8 * c + 4 * 0) (s.2.1 16 (2 * c + 0)) e l s3 → Q (.inl (some (.int (iI l)))) (mo_uf (mo_uf (mo_uf (mo_uf s3 21 (3 * c) e) 21 (3 * c + 1) x) 21 (3 * c + 2) l) 13 c 1)) : mw G b ad mM_lock (d + 1 + 1 + 1) Q 0 [some (.ref b), some (.int (iI c)), none, none, none] [] s kc ks := by
  refine mw_aload_n dM_lock_0 rfl ?_
  refine mw_aload_n dM_lock_1 rfl ?_
  refine mw_iload_n dM_lock_2 rfl ?_
  refine mw_callV1 dM_lock_3 cM_140 (Nat.le_of_ble_eq_true rfl) (Nat.le_of_ble_eq_true rfl) rfl ?_
  refine mo_noScope (by first | omega | (simp only [mo_uz_1, mo_uz_2, mo_uf_1, mo_uf_2, mo_uf_22, mo_ug_1, mo_ug_2, mo_ug_22, mo_len, Nat.reduceEqDiff, false_and, true_and, and_true, and_false, if_false, if_true, reduceIte, ite_true, ite_false, ne_eq, not_true_eq_false, not_false_eq_true] at *; omega)) (fun hn3 => ?_) (fun hn3 => ?_)
  · refine mw_iconst dM_lock_6 ?_
    refine mw_callV2 dM_lock_7 cM_110 (Nat.le_of_ble_eq_true rfl) (Nat.le_of_ble_eq_true rfl) rfl ?_
    refine mo_fails1 (by decide) ?_
    refine mw_if_ne (tgt := 71) dM_lock_10 (by decide) (by first | omega | (simp only [mo_uz_1, mo_uz_2, mo_uf_1, mo_uf_2, mo_uf_22, mo_ug_1, mo_ug_2, mo_ug_22, mo_len, Nat.reduceEqDiff, false_and, true_and, and_true, and_false, if_false, if_true, reduceIte, ite_true, ite_false, ne_eq, not_true_eq_false, not_false_eq_true] at *; omega)) (fun _ => ?_) (fun hb10 => absurd hb10 (by decide))
    refine mw_iconst dM_lock_71 ?_
    refine mw_iret dM_lock_72 rfl ?_
    first
      | exact hbad (by first | omega | (simp only [mo_uz_1, mo_uz_2, mo_uf_1, mo_uf_2, mo_uf_22, mo_ug_1, mo_ug_2, mo_ug_22, mo_len, Nat.reduceEqDiff, false_and, true_and, and_true, and_false, if_false, if_true, reduceIte, ite_true, ite_false, ne_eq, not_true_eq_false, not_false_eq_true] at *; omega))
      | (rw [mo_uz_uz]; exact hst (by first | omega | (simp only [mo_uz_1, mo_uz_2, mo_uf_1, mo_uf_2, mo_uf_22, mo_ug_1, mo_ug_2, mo_ug_22, mo_len, Nat.reduceEqDiff, false_and, true_and, and_true, and_false, if_false, if_true, reduceIte, ite_true, ite_false, ne_eq, not_true_eq_false, not_false_eq_true] at *; omega)) (by first | omega | (simp only [mo_uz_1, mo_uz_2, mo_uf_1, mo_uf_2, mo_uf_22, mo_ug_1, mo_ug_2, mo_ug_22, mo_len, Nat.reduceEqDiff, false_and, true_and, and_true, and_false, if_false, if_true, reduceIte, ite_true, ite_false, ne_eq, not_true_eq_false, not_false_eq_true] at *; omega)))
      | (rw [mo_uz_uz, mo_uz_uz]; exact hfull (by first | omega | (simp only [mo_uz_1, mo_uz_2, mo_uf_1, mo_uf_2, mo_uf_22, mo_ug_1, mo_ug_2, mo_ug_22, mo_len, Nat.reduceEqDiff, false_and, true_and, and_true, and_false, if_false, if_true, reduceIte, ite_true, ite_false, ne_eq, not_true_eq_false, not_false_eq_true] at *; omega)) (by first | omega | (simp only [mo_uz_1, mo_uz_2, mo_uf_1, mo_uf_2, mo_uf_22, mo_ug_1, mo_ug_2, mo_ug_22, mo_len, Nat.reduceEqDiff, false_and, true_and, and_true, and_false, if_false, if_true, reduceIte, ite_true, ite_false, ne_eq, not_true_eq_false, not_false_eq_true] at *; omega)) (by first | omega | (simp only [mo_uz_1, mo_uz_2, mo_uf_1, mo_uf_2, mo_uf_22, mo_ug_1, mo_ug_2, mo_ug_22, mo_len, Nat.reduceEqDiff, false_and, true_and, and_true, and_false, if_false, if_true, reduceIte, ite_true, ite_false, ne_eq, not_true_eq_false, not_false_eq_true] at *; omega)))
  · refine mw_iconst dM_lock_6 ?_
    refine mw_callV2 dM_lock_7 cM_110 (Nat.le_of_ble_eq_true rfl) (Nat.le_of_ble_eq_true rfl) rfl ?_
    refine mo_fails0 (by decide) ?_
    refine mw_if_ne (tgt := 71) dM_lock_10 (by decide) (by first | omega | (simp only [mo_uz_1, mo_uz_2, mo_uf_1, mo_uf_2, mo_uf_22, mo_ug_1, mo_ug_2, mo_ug_22, mo_len, Nat.reduceEqDiff, false_and, true_and, and_true, and_false, if_false, if_true, reduceIte, ite_true, ite_false, ne_eq, not_true_eq_false, not_false_eq_true] at *; omega)) (fun hb10 => absurd hb10 (by decide)) (fun _ => ?_)
    have hgd : (0 ≤ c ∧ c < s.1 12) := by first | omega | (simp only [mo_uz_1, mo_uz_2, mo_uf_1, mo_uf_2, mo_uf_22, mo_ug_1, mo_ug_2, mo_ug_22, mo_len, Nat.reduceEqDiff, false_and, true_and, and_true, and_false, if_false, if_true, reduceIte, ite_true, ite_false, ne_eq, not_true_eq_false, not_false_eq_true] at *; omega)
    refine mw_aload_n dM_lock_13 rfl ?_
    refine mw_aload_n dM_lock_14 rfl ?_
    refine mw_get dM_lock_15 fM_49 rfl ?_
    refine mw_iload_n dM_lock_18 rfl ?_
    refine mw_iald dM_lock_19 rfl rfl (by first | omega | (simp only [mo_uz_1, mo_uz_2, mo_uf_1, mo_uf_2, mo_uf_22, mo_ug_1, mo_ug_2, mo_ug_22, mo_len, Nat.reduceEqDiff, false_and, true_and, and_true, and_false, if_false, if_true, reduceIte, ite_true, ite_false, ne_eq, not_true_eq_false, not_false_eq_true] at *; omega)) (by first | omega | (simp only [mo_uz_1, mo_uz_2, mo_uf_1, mo_uf_2, mo_uf_22, mo_ug_1, mo_ug_2, mo_ug_22, mo_len, Nat.reduceEqDiff, false_and, true_and, and_true, and_false, if_false, if_true, reduceIte, ite_true, ite_false, ne_eq, not_true_eq_false, not_false_eq_true] at *; omega)) (fun hv19 => ?_)
    refine mw_if_gt (tgt := 38) dM_lock_20 (by decide) (by first | omega | (simp only [mo_uz_1, mo_uz_2, mo_uf_1, mo_uf_2, mo_uf_22, mo_ug_1, mo_ug_2, mo_ug_22, mo_len, Nat.reduceEqDiff, false_and, true_and, and_true, and_false, if_false, if_true, reduceIte, ite_true, ite_false, ne_eq, not_true_eq_false, not_false_eq_true] at *; omega)) (fun hb20 => ?_) (fun hb20 => ?_)
    · refine mw_iconst dM_lock_38 ?_
      refine mw_goto (tgt := 43) dM_lock_39 (by decide) ?_
      refine mw_iconst dM_lock_43 ?_
      refine mw_callV2 dM_lock_44 cM_110 (Nat.le_of_ble_eq_true rfl) (Nat.le_of_ble_eq_true rfl) rfl ?_
      refine mo_fails1 (by decide) ?_
      refine mw_if_ne (tgt := 71) dM_lock_47 (by decide) (by first | omega | (simp only [mo_uz_1, mo_uz_2, mo_uf_1, mo_uf_2, mo_uf_22, mo_ug_1, mo_ug_2, mo_ug_22, mo_len, Nat.reduceEqDiff, false_and, true_and, and_true, and_false, if_false, if_true, reduceIte, ite_true, ite_false, ne_eq, not_true_eq_false, not_false_eq_true] at *; omega)) (fun _ => ?_) (fun hb47 => absurd hb47 (by decide))
      refine mw_iconst dM_lock_71 ?_
      refine mw_iret dM_lock_72 rfl ?_
      first
        | exact hbad (by first | omega | (simp only [mo_uz_1, mo_uz_2, mo_uf_1, mo_uf_2, mo_uf_22, mo_ug_1, mo_ug_2, mo_ug_22, mo_len, Nat.reduceEqDiff, false_and, true_and, and_true, and_false, if_false, if_true, reduceIte, ite_true, ite_false, ne_eq, not_true_eq_false, not_false_eq_true] at *; omega))
        | (rw [mo_uz_uz]; exact hst (by first | omega | (simp only [mo_uz_1, mo_uz_2, mo_uf_1, mo_uf_2, mo_uf_22, mo_ug_1, mo_ug_2, mo_ug_22, mo_len, Nat.reduceEqDiff, false_and, true_and, and_true, and_false, if_false, if_true, reduceIte, ite_true, ite_false, ne_eq, not_true_eq_false, not_false_eq_true] at *; omega)) (by first | omega | (simp only [mo_uz_1, mo_uz_2, mo_uf_1, mo_uf_2, mo_uf_22, mo_ug_1, mo_ug_2, mo_ug_22, mo_len, Nat.reduceEqDiff, false_and, true_and, and_true, and_false, if_false, if_true, reduceIte, ite_true, ite_false, ne_eq, not_true_eq_false, not_false_eq_true] at *; omega)))
        | (rw [mo_uz_uz, mo_uz_uz]; exact hfull (by first | omega | (simp only [mo_uz_1, mo_uz_2, mo_uf_1, mo_uf_2, mo_uf_22, mo_ug_1, mo_ug_2, mo_ug_22, mo_len, Nat.reduceEqDiff, false_and, true_and, and_true, and_false, if_false, if_true, reduceIte, ite_true, ite_false, ne_eq, not_true_eq_false, not_false_eq_true] at *; omega)) (by first | omega | (simp only [mo_uz_1, mo_uz_2, mo_uf_1, mo_uf_2, mo_uf_22, mo_ug_1, mo_ug_2, mo_ug_22, mo_len, Nat.reduceEqDiff, false_and, true_and, and_true, and_false, if_false, if_true, reduceIte, ite_true, ite_false, ne_eq, not_true_eq_false, not_false_eq_true] at *; omega)) (by first | omega | (simp only [mo_uz_1, mo_uz_2, mo_uf_1, mo_uf_2, mo_uf_22, mo_ug_1, mo_ug_2, mo_ug_22, mo_len, Nat.reduceEqDiff, false_and, true_and, and_true, and_false, if_false, if_true, reduceIte, ite_true, ite_false, ne_eq, not_true_eq_false, not_false_eq_true] at *; omega)))
    · have h13c : s.2.1 13 c ≤ 0 := by first | omega | (simp only [mo_uz_1, mo_uz_2, mo_uf_1, mo_uf_2, mo_uf_22, mo_ug_1, mo_ug_2, mo_ug_22, mo_len, Nat.reduceEqDiff, false_and, true_and, and_true, and_false, if_false, if_true, reduceIte, ite_true, ite_false, ne_eq, not_true_eq_false, not_false_eq_true] at *; omega)
      have hab9 := hab hgd.1 hgd.2 h13c
      refine mw_aload_n dM_lock_23 rfl ?_
      refine mw_get dM_lock_24 fM_49 rfl ?_
      refine mw_aload_n dM_lock_27 rfl ?_
      refine mw_get dM_lock_28 fM_52 rfl ?_
      refine mw_iload_n dM_lock_31 rfl ?_
      refine mw_iald dM_lock_32 rfl rfl (by first | omega | (simp only [mo_uz_1, mo_uz_2, mo_uf_1, mo_uf_2, mo_uf_22, mo_ug_1, mo_ug_2, mo_ug_22, mo_len, Nat.reduceEqDiff, false_and, true_and, and_true, and_false, if_false, if_true, reduceIte, ite_true, ite_false, ne_eq, not_true_eq_false, not_false_eq_true] at *; omega)) (by first | omega | (simp only [mo_uz_1, mo_uz_2, mo_uf_1, mo_uf_2, mo_uf_22, mo_ug_1, mo_ug_2, mo_ug_22, mo_len, Nat.reduceEqDiff, false_and, true_and, and_true, and_false, if_false, if_true, reduceIte, ite_true, ite_false, ne_eq, not_true_eq_false, not_false_eq_true] at *; omega)) (fun hv32 => ?_)
      refine mw_iald dM_lock_33 rfl rfl (by first | omega | (simp only [mo_uz_1, mo_uz_2, mo_uf_1, mo_uf_2, mo_uf_22, mo_ug_1, mo_ug_2, mo_ug_22, mo_len, Nat.reduceEqDiff, false_and, true_and, and_true, and_false, if_false, if_true, reduceIte, ite_true, ite_false, ne_eq, not_true_eq_false, not_false_eq_true] at *; omega)) (by first | omega | (simp only [mo_uz_1, mo_uz_2, mo_uf_1, mo_uf_2, mo_uf_22, mo_ug_1, mo_ug_2, mo_ug_22, mo_len, Nat.reduceEqDiff, false_and, true_and, and_true, and_false, if_false, if_true, reduceIte, ite_true, ite_false, ne_eq, not_true_eq_false, not_false_eq_true] at *; omega)) (fun hv33 => ?_)
      refine mw_iconst dM_lock_34 ?_
      refine mw_icmp_eq (tgt := 42) dM_lock_35 (by decide) (by first | omega | (simp only [mo_uz_1, mo_uz_2, mo_uf_1, mo_uf_2, mo_uf_22, mo_ug_1, mo_ug_2, mo_ug_22, mo_len, Nat.reduceEqDiff, false_and, true_and, and_true, and_false, if_false, if_true, reduceIte, ite_true, ite_false, ne_eq, not_true_eq_false, not_false_eq_true] at *; omega)) (by first | omega | (simp only [mo_uz_1, mo_uz_2, mo_uf_1, mo_uf_2, mo_uf_22, mo_ug_1, mo_ug_2, mo_ug_22, mo_len, Nat.reduceEqDiff, false_and, true_and, and_true, and_false, if_false, if_true, reduceIte, ite_true, ite_false, ne_eq, not_true_eq_false, not_false_eq_true] at *; omega)) (fun hb35 => ?_) (fun hb35 => ?_)
      · refine mw_iconst dM_lock_42 ?_
        refine mw_iconst dM_lock_43 ?_
        refine mw_callV2 dM_lock_44 cM_110 (Nat.le_of_ble_eq_true rfl) (Nat.le_of_ble_eq_true rfl) rfl ?_
        refine mo_fails0 (by decide) ?_
        refine mw_if_ne (tgt := 71) dM_lock_47 (by decide) (by first | omega | (simp only [mo_uz_1, mo_uz_2, mo_uf_1, mo_uf_2, mo_uf_22, mo_ug_1, mo_ug_2, mo_ug_22, mo_len, Nat.reduceEqDiff, false_and, true_and, and_true, and_false, if_false, if_true, reduceIte, ite_true, ite_false, ne_eq, not_true_eq_false, not_false_eq_true] at *; omega)) (fun hb47 => absurd hb47 (by decide)) (fun _ => ?_)
        refine mw_aload_n dM_lock_50 rfl ?_
        refine mw_aload_n dM_lock_51 rfl ?_
        refine mw_callV0 dM_lock_52 cM_144 (Nat.le_of_ble_eq_true rfl) (Nat.le_of_ble_eq_true rfl) rfl ?_
        refine mo_freeLoaders ?_
        have hfb := mo_fr_b (s.2.1 5) 40
        refine mw_iconst dM_lock_55 ?_
        refine mw_icmp_ge (tgt := 63) dM_lock_56 (by decide) (by first | omega | (simp only [mo_uz_1, mo_uz_2, mo_uf_1, mo_uf_2, mo_uf_22, mo_ug_1, mo_ug_2, mo_ug_22, mo_len, Nat.reduceEqDiff, false_and, true_and, and_true, and_false, if_false, if_true, reduceIte, ite_true, ite_false, ne_eq, not_true_eq_false, not_false_eq_true] at *; omega)) (by first | omega | (simp only [mo_uz_1, mo_uz_2, mo_uf_1, mo_uf_2, mo_uf_22, mo_ug_1, mo_ug_2, mo_ug_22, mo_len, Nat.reduceEqDiff, false_and, true_and, and_true, and_false, if_false, if_true, reduceIte, ite_true, ite_false, ne_eq, not_true_eq_false, not_false_eq_true] at *; omega)) (fun hb56 => ?_) (fun hb56 => ?_)
        · refine mw_iconst dM_lock_63 ?_
          refine mw_iconst dM_lock_64 ?_
          refine mw_callV2 dM_lock_65 cM_110 (Nat.le_of_ble_eq_true rfl) (Nat.le_of_ble_eq_true rfl) rfl ?_
          refine mo_fails0 (by decide) ?_
          refine mw_if_eq (tgt := 73) dM_lock_68 (by decide) (by first | omega | (simp only [mo_uz_1, mo_uz_2, mo_uf_1, mo_uf_2, mo_uf_22, mo_ug_1, mo_ug_2, mo_ug_22, mo_len, Nat.reduceEqDiff, false_and, true_and, and_true, and_false, if_false, if_true, reduceIte, ite_true, ite_false, ne_eq, not_true_eq_false, not_false_eq_true] at *; omega)) (fun _ => ?_) (fun hb68 => absurd hb68 (by decide))
          rw [mo_uz_uz, mo_uz_uz]
          refine mo_lock_t (s := mo_uz s 0 0) (by first | omega | (simp only [mo_uz_1, mo_uz_2, mo_uf_1, mo_uf_2, mo_uf_22, mo_ug_1, mo_ug_2, mo_ug_22, mo_len, Nat.reduceEqDiff, false_and, true_and, and_true, and_false, if_false, if_true, reduceIte, ite_true, ite_false, ne_eq, not_true_eq_false, not_false_eq_true] at *; omega)) hab9 (hSL : mo_SL (mo_uz s 0 0)) (hlen hgd.1 hgd.2) (by first | omega | (simp only [mo_uz_1, mo_uz_2, mo_uf_1, mo_uf_2, mo_uf_22, mo_ug_1, mo_ug_2, mo_ug_22, mo_len, Nat.reduceEqDiff, false_and, true_and, and_true, and_false, if_false, if_true, reduceIte, ite_true, ite_false, ne_eq, not_true_eq_false, not_false_eq_true] at *; omega)) (hq hgd (by first | omega | (simp only [mo_uz_1, mo_uz_2, mo_uf_1, mo_uf_2, mo_uf_22, mo_ug_1, mo_ug_2, mo_ug_22, mo_len, Nat.reduceEqDiff, false_and, true_and, and_true, and_false, if_false, if_true, reduceIte, ite_true, ite_false, ne_eq, not_true_eq_false, not_false_eq_true] at *; omega)) (by first | omega | (simp only [mo_uz_1, mo_uz_2, mo_uf_1, mo_uf_2, mo_uf_22, mo_ug_1, mo_ug_2, mo_ug_22, mo_len, Nat.reduceEqDiff, false_and, true_and, and_true, and_false, if_false, if_true, reduceIte, ite_true, ite_false, ne_eq, not_true_eq_false, not_false_eq_true] at *; omega)))
        · refine mw_iconst dM_lock_59 ?_
          refine mw_goto (tgt := 64) dM_lock_60 (by decide) ?_
          refine mw_iconst dM_lock_64 ?_
          refine mw_callV2 dM_lock_65 cM_110 (Nat.le_of_ble_eq_true rfl) (Nat.le_of_ble_eq_true rfl) rfl ?_
          refine mo_fails1 (by decide) ?_
          refine mw_if_eq (tgt := 73) dM_lock_68 (by decide) (by first | omega | (simp only [mo_uz_1, mo_uz_2, mo_uf_1, mo_uf_2, mo_uf_22, mo_ug_1, mo_ug_2, mo_ug_22, mo_len, Nat.reduceEqDiff, false_and, true_and, and_true, and_false, if_false, if_true, reduceIte, ite_true, ite_false, ne_eq, not_true_eq_false, not_false_eq_true] at *; omega)) (fun hb68 => absurd hb68 (by decide)) (fun _ => ?_)
          refine mw_iconst dM_lock_71 ?_
          refine mw_iret dM_lock_72 rfl ?_
          first
            | exact hbad (by first | omega | (simp only [mo_uz_1, mo_uz_2, mo_uf_1, mo_uf_2, mo_uf_22, mo_ug_1, mo_ug_2, mo_ug_22, mo_len, Nat.reduceEqDiff, false_and, true_and, and_true, and_false, if_false, if_true, reduceIte, ite_true, ite_false, ne_eq, not_true_eq_false, not_false_eq_true] at *; omega))
            | (rw [mo_uz_uz]; exact hst (by first | omega | (simp only [mo_uz_1, mo_uz_2, mo_uf_1, mo_uf_2, mo_uf_22, mo_ug_1, mo_ug_2, mo_ug_22, mo_len, Nat.reduceEqDiff, false_and, true_and, and_true, and_false, if_false, if_true, reduceIte, ite_true, ite_false, ne_eq, not_true_eq_false, not_false_eq_true] at *; omega)) (by first | omega | (simp only [mo_uz_1, mo_uz_2, mo_uf_1, mo_uf_2, mo_uf_22, mo_ug_1, mo_ug_2, mo_ug_22, mo_len, Nat.reduceEqDiff, false_and, true_and, and_true, and_false, if_false, if_true, reduceIte, ite_true, ite_false, ne_eq, not_true_eq_false, not_false_eq_true] at *; omega)))
            | (rw [mo_uz_uz, mo_uz_uz]; exact hfull (by first | omega | (simp only [mo_uz_1, mo_uz_2, mo_uf_1, mo_uf_2, mo_uf_22, mo_ug_1, mo_ug_2, mo_ug_22, mo_len, Nat.reduceEqDiff, false_and, true_and, and_true, and_false, if_false, if_true, reduceIte, ite_true, ite_false, ne_eq, not_true_eq_false, not_false_eq_true] at *; omega)) (by first | omega | (simp only [mo_uz_1, mo_uz_2, mo_uf_1, mo_uf_2, mo_uf_22, mo_ug_1, mo_ug_2, mo_ug_22, mo_len, Nat.reduceEqDiff, false_and, true_and, and_true, and_false, if_false, if_true, reduceIte, ite_true, ite_false, ne_eq, not_true_eq_false, not_false_eq_true] at *; omega)) (by first | omega | (simp only [mo_uz_1, mo_uz_2, mo_uf_1, mo_uf_2, mo_uf_22, mo_ug_1, mo_ug_2, mo_ug_22, mo_len, Nat.reduceEqDiff, false_and, true_and, and_true, and_false, if_false, if_true, reduceIte, ite_true, ite_false, ne_eq, not_true_eq_false, not_false_eq_true] at *; omega)))
      · refine mw_iconst dM_lock_38 ?_
        refine mw_goto (tgt := 43) dM_lock_39 (by decide) ?_
        refine mw_iconst dM_lock_43 ?_
        refine mw_callV2 dM_lock_44 cM_110 (Nat.le_of_ble_eq_true rfl) (Nat.le_of_ble_eq_true rfl) rfl ?_
        refine mo_fails1 (by decide) ?_
        refine mw_if_ne (tgt := 71) dM_lock_47 (by decide) (by first | omega | (simp only [mo_uz_1, mo_uz_2, mo_uf_1, mo_uf_2, mo_uf_22, mo_ug_1, mo_ug_2, mo_ug_22, mo_len, Nat.reduceEqDiff, false_and, true_and, and_true, and_false, if_false, if_true, reduceIte, ite_true, ite_false, ne_eq, not_true_eq_false, not_false_eq_true] at *; omega)) (fun _ => ?_) (fun hb47 => absurd hb47 (by decide))
        refine mw_iconst dM_lock_71 ?_
        refine mw_iret dM_lock_72 rfl ?_
        first
          | exact hbad (by first | omega | (simp only [mo_uz_1, mo_uz_2, mo_uf_1, mo_uf_2, mo_uf_22, mo_ug_1, mo_ug_2, mo_ug_22, mo_len, Nat.reduceEqDiff, false_and, true_and, and_true, and_false, if_false, if_true, reduceIte, ite_true, ite_false, ne_eq, not_true_eq_false, not_false_eq_true] at *; omega))
          | (rw [mo_uz_uz]; exact hst (by first | omega | (simp only [mo_uz_1, mo_uz_2, mo_uf_1, mo_uf_2, mo_uf_22, mo_ug_1, mo_ug_2, mo_ug_22, mo_len, Nat.reduceEqDiff, false_and, true_and, and_true, and_false, if_false, if_true, reduceIte, ite_true, ite_false, ne_eq, not_true_eq_false, not_false_eq_true] at *; omega)) (by first | omega | (simp only [mo_uz_1, mo_uz_2, mo_uf_1, mo_uf_2, mo_uf_22, mo_ug_1, mo_ug_2, mo_ug_22, mo_len, Nat.reduceEqDiff, false_and, true_and, and_true, and_false, if_false, if_true, reduceIte, ite_true, ite_false, ne_eq, not_true_eq_false, not_false_eq_true] at *; omega)))
          | (rw [mo_uz_uz, mo_uz_uz]; exact hfull (by first | omega | (simp only [mo_uz_1, mo_uz_2, mo_uf_1, mo_uf_2, mo_uf_22, mo_ug_1, mo_ug_2, mo_ug_22, mo_len, Nat.reduceEqDiff, false_and, true_and, and_true, and_false, if_false, if_true, reduceIte, ite_true, ite_false, ne_eq, not_true_eq_false, not_false_eq_true] at *; omega)) (by first | omega | (simp only [mo_uz_1, mo_uz_2, mo_uf_1, mo_uf_2, mo_uf_22, mo_ug_1, mo_ug_2, mo_ug_22, mo_len, Nat.reduceEqDiff, false_and, true_and, and_true, and_false, if_false, if_true, reduceIte, ite_true, ite_false, ne_eq, not_true_eq_false, not_false_eq_true] at *; omega)) (by first | omega | (simp only [mo_uz_1, mo_uz_2, mo_uf_1, mo_uf_2, mo_uf_22, mo_ug_1, mo_ug_2, mo_ug_22, mo_len, Nat.reduceEqDiff, false_and, true_and, and_true, and_false, if_false, if_true, reduceIte, ite_true, ite_false, ne_eq, not_true_eq_false, not_false_eq_true] at *; omega)))

end MO16
