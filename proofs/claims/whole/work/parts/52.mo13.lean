/-! the reference: describedFrom -/
section MO13
variable {G : aw_G} {b : Nat} {ad : Nat → Nat} {d : Nat} {Q : aw_O → mo_S → Prop} {s : mo_S} {kc ks : Nat}
/-- the plugin p has no descriptor on the sheet y -/
def mo_nd (t : mo_T) (y p : Int) : Prop := ∀ k, 0 ≤ k → k < t.1 3 y → ¬ t.1 4 (8 * y + 2 * k) = p
def mo_ndl (t : mo_T) (l p : Int) : Prop := ∀ i, 0 ≤ i → i < t.1 8 l → mo_nd t (10 + 4 * l + i) p
/-- v is the name in the first descriptor of p in the loader l -/
def mo_dl (t : mo_T) (l p v : Int) : Prop := ∃ i k, (0 ≤ i ∧ i < t.1 8 l) ∧ (∀ j, 0 ≤ j → j < i → mo_nd t (10 + 4 * l + j) p) ∧ (0 ≤ k ∧ k < t.1 3 (10 + 4 * l + i)) ∧ v = t.1 4 (8 * (10 + 4 * l + i) + 2 * k + 1) ∧ t.1 4 (8 * (10 + 4 * l + i) + 2 * k) = p
theorem mo_dl_n {t : mo_T} {l p v : Int} (h : mo_dl t l p v) (h' : mo_ndl t l p) : False := by
  obtain ⟨i, k, h1, h2, h3, h4, h5⟩ := h
  exact h' i h1.1 h1.2 k h3.1 h3.2 h5
theorem mo_dl_u {t : mo_T} {l p v v' : Int} (hl : mo_ldr t l) (h : mo_dl t l p v) (h' : mo_dl t l p v') : v = v' := by
  obtain ⟨i, k, h1, h2, h3, h4, h5⟩ := h
  obtain ⟨i', k', h1', h2', h3', h4', h5'⟩ := h'
  have e : i = i' := by
    by_cases e1 : i < i'
    · exact absurd h5 (h2' i h1.1 e1 k h3.1 h3.2)
    · by_cases e2 : i' < i
      · exact absurd h5' (h2 i' h1'.1 e2 k' h3'.1 h3'.2)
      · omega
  subst e
  have e := (hl.2.2.2.2.1 i h1.1 h1.2).2.2.2.1 k k' h3.1 h3.2 h3'.1 h3'.2 (h5.trans h5'.symm)
  subst e
  omega
theorem mo_dl_b {t : mo_T} {l p v : Int} (hl : mo_ldr t l) (h : mo_dl t l p v) : 0 ≤ v := by
  obtain ⟨i, k, h1, h2, h3, h4, h5⟩ := h
  rw [h4]
  exact (hl.2.2.2.2.1 i h1.1 h1.2).2.2.2.2 k h3.1 h3.2
theorem mo_dl_ex {t : mo_T} {l p : Int} (h : ¬ mo_ndl t l p) : ∃ v, mo_dl t l p v := by
  by_cases e : ∃ v, mo_dl t l p v
  · exact e
  · refine absurd ?_ h
    have hno : ∀ N : Nat, ∀ i, i < (N : Int) → 0 ≤ i → i < t.1 8 l → mo_nd t (10 + 4 * l + i) p := by
      intro N
      induction N with
      | zero => intro i h1 h2; exact absurd h1 (by omega)
      | succ N ihN =>
        intro i h1 h2 h3 k h4 h5 h6
        exact e ⟨_, i, k, ⟨h2, h3⟩, fun j q1 q2 => ihN j (by omega) q1 (by omega), ⟨h4, h5⟩, rfl, h6⟩
    exact fun i h1 h2 => hno (i + 1).toNat i (by omega) h1 h2
/-- the first loader from l up that has a descriptor of p, and the name in it -/
def mo_dr (t : mo_T) (p : Int) : Nat → Int → Option (Int × Int) → Prop
  | 0, _, r => r = none
  | n + 1, l, r => (l = 0 ∧ r = none) ∨ (1 ≤ l ∧ ((∃ v, mo_dl t l p v ∧ r = some (l, v)) ∨ (mo_ndl t l p ∧ mo_dr t p n (t.1 7 l) r)))
/-- no filter below the first loader with a descriptor of p stops the name m -/
def mo_lt (t : mo_T) (p m : Int) : Nat → Int → Prop
  | 0, _ => True
  | n + 1, l => l = 0 ∨ (¬ mo_ndl t l p) ∨ (mo_ndl t l p ∧ (t.1 6 l = 2 → mo_adm (mo_s0 t) l m) ∧ mo_lt t p m n (t.1 7 l))
theorem mo_dr_ex (t : mo_T) (p : Int) : ∀ n l, mo_chn t n l → ∃ r, mo_dr t p n l r := by
  intro n
  induction n with
  | zero => exact fun l _ => ⟨none, rfl⟩
  | succ n ih =>
    intro l h
    rcases h with h | ⟨h, h2⟩
    · exact ⟨none, Or.inl ⟨h, rfl⟩⟩
    · by_cases e : mo_ndl t l p
      · obtain ⟨r, hr⟩ := ih _ h2
        exact ⟨r, Or.inr ⟨h.1.1, Or.inr ⟨e, hr⟩⟩⟩
      · obtain ⟨v, hv⟩ := mo_dl_ex e
        exact ⟨some (l, v), Or.inr ⟨h.1.1, Or.inl ⟨v, hv, rfl⟩⟩⟩
theorem mo_dr_b {t : mo_T} {p o v : Int} : ∀ n l, mo_chn t n l → mo_dr t p n l (some (o, v)) → mo_ldr t o ∧ mo_dl t o p v := by
  intro n
  induction n with
  | zero => exact fun l _ h => by cases h
  | succ n ih =>
    intro l hc h
    rcases hc with hc | ⟨hl, hc⟩
    · rcases h with ⟨_, e⟩ | ⟨e, _⟩
      · cases e
      · exact absurd e (by omega)
    · rcases h with ⟨e, _⟩ | ⟨_, ⟨w, hw, e⟩ | ⟨_, h⟩⟩
      · exact absurd hl.1.1 (by omega)
      · cases e
        exact ⟨hl, hw⟩
      · exact ih _ hc h
theorem mo_df_i {f0 p l : Int} {x6 x7 x8 : Option Value} (hl : mo_ldr s.2 l) (hp : iB p) (hgb : ∀ k i, iB (s.2.1 k i)) (hk : ∀ i v, iB v → ((v < 0 ∧ mo_ndl s.2 l p) ∨ (0 ≤ v ∧ mo_dl s.2 l p v)) → mw G b ad mM_describedFrom (d + 1) Q 55 [some (.ref b), some (.int (iI f0)), some (.int (iI p)), some (.int (iI l)), some (.int (iI v)), some (.int (iI i)), x6, x7, x8] [] s kc ks) : ∀ i : Int, i ≤ s.2.1 8 l → 0 ≤ i → ∀ v, iB v → ((v < 0 ∧ ∀ j, 0 ≤ j → j < i → mo_nd s.2 (10 + 4 * l + j) p) ∨ (0 ≤ v ∧ mo_dl s.2 l p v)) → mw G b ad mM_describedFrom (d + 1) Q 17 [some (.ref b), some (.int (iI f0)), some (.int (iI p)), some (.int (iI l)), some (.int (iI v)), some (.int (iI i)), x6, x7, x8] [] s kc ks := by
  refine il_up (s.2.1 8 l) (fun i hi ih h0 v hvb hv => ?_)
  have hl1 := hl.1
  have hl3 := hl.2.2.1
  refine mw_iload dM_describedFrom_17 rfl ?_
  refine mw_aload_n dM_describedFrom_19 rfl ?_
  refine mw_get dM_describedFrom_20 fM_32 rfl ?_
  refine mw_iload_n dM_describedFrom_23 rfl ?_
  refine mw_iald dM_describedFrom_24 rfl rfl (by first | omega | (simp only [mo_uz_1, mo_uz_2, mo_uf_1, mo_uf_2, mo_uf_22, mo_ug_1, mo_ug_2, mo_ug_22, mo_len, Nat.reduceEqDiff, false_and, true_and, and_true, and_false, if_false, if_true, reduceIte, ite_true, ite_false, ne_eq, not_true_eq_false, not_false_eq_true] at *; omega)) (by first | omega | (simp only [mo_uz_1, mo_uz_2, mo_uf_1, mo_uf_2, mo_uf_22, mo_ug_1, mo_ug_2, mo_ug_22, mo_len, Nat.reduceEqDiff, false_and, true_and, and_true, and_false, if_false, if_true, reduceIte, ite_true, ite_false, ne_eq, not_true_eq_false, not_false_eq_true] at *; omega)) (fun hv24 => ?_)
  refine mw_icmp_ge (tgt := 55) dM_describedFrom_25 (by decide) (by first | omega | (simp only [mo_uz_1, mo_uz_2, mo_uf_1, mo_uf_2, mo_uf_22, mo_ug_1, mo_ug_2, mo_ug_22, mo_len, Nat.reduceEqDiff, false_and, true_and, and_true, and_false, if_false, if_true, reduceIte, ite_true, ite_false, ne_eq, not_true_eq_false, not_false_eq_true] at *; omega)) (by first | omega | (simp only [mo_uz_1, mo_uz_2, mo_uf_1, mo_uf_2, mo_uf_22, mo_ug_1, mo_ug_2, mo_ug_22, mo_len, Nat.reduceEqDiff, false_and, true_and, and_true, and_false, if_false, if_true, reduceIte, ite_true, ite_false, ne_eq, not_true_eq_false, not_false_eq_true] at *; omega)) (fun hb25 => ?_) (fun hb25 => ?_)
  · refine hk i v hvb ?_
    rcases hv with ⟨g1, g2⟩ | ⟨g1, g2⟩
    · exact Or.inl ⟨g1, fun j p1 p2 => g2 j p1 (by omega)⟩
    · exact Or.inr ⟨g1, g2⟩
  · have hu9 := hl.2.2.2.2.1 i h0 (by omega)
    refine mw_iload dM_describedFrom_28 rfl ?_
    refine mw_if_ge (tgt := 55) dM_describedFrom_30 (by decide) (by first | omega | (simp only [mo_uz_1, mo_uz_2, mo_uf_1, mo_uf_2, mo_uf_22, mo_ug_1, mo_ug_2, mo_ug_22, mo_len, Nat.reduceEqDiff, false_and, true_and, and_true, and_false, if_false, if_true, reduceIte, ite_true, ite_false, ne_eq, not_true_eq_false, not_false_eq_true] at *; omega)) (fun hb30 => ?_) (fun hb30 => ?_)
    · refine hk i v hvb ?_
      rcases hv with ⟨g1, g2⟩ | ⟨g1, g2⟩
      · exact Or.inl ⟨g1, fun j p1 p2 => g2 j p1 (by omega)⟩
      · exact Or.inr ⟨g1, g2⟩
    · refine mw_aload_n dM_describedFrom_33 rfl ?_
      refine mw_bipush dM_describedFrom_34 (by decide +kernel) ?_
      refine mw_iconst dM_describedFrom_36 ?_
      refine mw_iload_n dM_describedFrom_37 rfl ?_
      refine mw_imul dM_describedFrom_38 ?_
      refine mw_iadd dM_describedFrom_39 ?_
      refine mw_iload dM_describedFrom_40 rfl ?_
      refine mw_iadd dM_describedFrom_42 ?_
      refine mw_iload_n dM_describedFrom_43 rfl ?_
      refine mw_callV2 dM_describedFrom_44 cM_118 (Nat.le_of_ble_eq_true rfl) (Nat.le_of_ble_eq_true rfl) rfl ?_
      refine mo_described (by omega) hp hu9.2.1 (fun r hr => ?_)
      have hr : mo_lm (fun j => s.2.1 4 (8 * (10 + 4 * l + i) + 2 * j) = p) (fun k => s.2.1 4 (8 * (10 + 4 * l + i) + 2 * k + 1)) (s.2.1 3 (10 + 4 * l + i)) r := hr
      have hrb : iB r := by
        rcases hr with ⟨q1, q2⟩ | ⟨k, q1, q2, q3, q4, q5⟩
        · omega
        · have q1 : r = s.2.1 4 (8 * (10 + 4 * l + i) + 2 * k + 1) := q1
          rw [q1]; exact hgb _ _
      refine mw_istore dM_describedFrom_47 (by decide) rfl ?_
      refine mw_iinc dM_describedFrom_49 rfl (by decide) rfl ?_
      refine mw_goto (tgt := 17) dM_describedFrom_52 (by decide) ?_
      refine ih (by omega) (by omega) _ hrb ?_
      rcases hv with ⟨g1, g2⟩ | ⟨g1, g2⟩
      · rcases hr with ⟨q1, q2⟩ | ⟨k, q1, q2, q3, q4, q5⟩
        · refine Or.inl ⟨by omega, fun j p1 p2 => ?_⟩
          by_cases e : j = i
          · subst e; exact q2
          · exact g2 j p1 (by omega)
        · have q1 : r = s.2.1 4 (8 * (10 + 4 * l + i) + 2 * k + 1) := q1
          refine Or.inr ⟨?_, i, k, ⟨h0, by omega⟩, g2, ⟨q2, q3⟩, q1, q4⟩
          rw [q1]; exact hu9.2.2.2.2 k q2 q3
      · omega
theorem mo_df_0' {f0 p l v : Int} {x5 x6 x7 x8 : Option Value} (hl : l = 0) (hvb : iB v) (hk : mw G b ad mM_describedFrom d Q 65 [some (.ref b), some (.int (iI f0)), some (.int (iI p)), some (.int (iI l)), some (.int (iI v)), x5, x6, x7, x8] [] s kc ks) : mw G b ad mM_describedFrom d Q 5 [some (.ref b), some (.int (iI f0)), some (.int (iI p)), some (.int (iI l)), some (.int (iI v)), x5, x6, x7, x8] [] s kc ks := by
  refine mw_iload_n dM_describedFrom_5 rfl ?_
  refine mw_if_le (tgt := 65) dM_describedFrom_6 (by decide) (by first | omega | (simp only [mo_uz_1, mo_uz_2, mo_uf_1, mo_uf_2, mo_uf_22, mo_ug_1, mo_ug_2, mo_ug_22, mo_len, Nat.reduceEqDiff, false_and, true_and, and_true, and_false, if_false, if_true, reduceIte, ite_true, ite_false, ne_eq, not_true_eq_false, not_false_eq_true] at *; omega)) (fun hb6 => ?_) (fun hb6 => absurd hb6 (by first | omega | (simp only [mo_uz_1, mo_uz_2, mo_uf_1, mo_uf_2, mo_uf_22, mo_ug_1, mo_ug_2, mo_ug_22, mo_len, Nat.reduceEqDiff, false_and, true_and, and_true, and_false, if_false, if_true, reduceIte, ite_true, ite_false, ne_eq, not_true_eq_false, not_false_eq_true] at *; omega)))
  exact hk
theorem mo_df_y {f0 p l v : Int} {x5 x6 x7 x8 : Option Value} (hlb : iB l) (hv : 0 ≤ v) (hvb : iB v) (hk : mw G b ad mM_describedFrom d Q 65 [some (.ref b), some (.int (iI f0)), some (.int (iI p)), some (.int (iI l)), some (.int (iI v)), x5, x6, x7, x8] [] s kc ks) : mw G b ad mM_describedFrom d Q 5 [some (.ref b), some (.int (iI f0)), some (.int (iI p)), some (.int (iI l)), some (.int (iI v)), x5, x6, x7, x8] [] s kc ks := by
  refine mw_iload_n dM_describedFrom_5 rfl ?_
  refine mw_if_le (tgt := 65) dM_describedFrom_6 (by decide) (by first | omega | (simp only [mo_uz_1, mo_uz_2, mo_uf_1, mo_uf_2, mo_uf_22, mo_ug_1, mo_ug_2, mo_ug_22, mo_len, Nat.reduceEqDiff, false_and, true_and, and_true, and_false, if_false, if_true, reduceIte, ite_true, ite_false, ne_eq, not_true_eq_false, not_false_eq_true] at *; omega)) (fun hb6 => ?_) (fun hb6 => ?_)
  · exact hk
  · refine mw_iload dM_describedFrom_9 rfl ?_
    refine mw_if_ge (tgt := 65) dM_describedFrom_11 (by decide) (by first | omega | (simp only [mo_uz_1, mo_uz_2, mo_uf_1, mo_uf_2, mo_uf_22, mo_ug_1, mo_ug_2, mo_ug_22, mo_len, Nat.reduceEqDiff, false_and, true_and, and_true, and_false, if_false, if_true, reduceIte, ite_true, ite_false, ne_eq, not_true_eq_false, not_false_eq_true] at *; omega)) (fun hb11 => ?_) (fun hb11 => absurd hb11 (by first | omega | (simp only [mo_uz_1, mo_uz_2, mo_uf_1, mo_uf_2, mo_uf_22, mo_ug_1, mo_ug_2, mo_ug_22, mo_len, Nat.reduceEqDiff, false_and, true_and, and_true, and_false, if_false, if_true, reduceIte, ite_true, ite_false, ne_eq, not_true_eq_false, not_false_eq_true] at *; omega)))
    exact hk
theorem mo_df_l {f0 p : Int} {x6 x7 x8 : Option Value} (hp : iB p) (hgb : ∀ k i, iB (s.2.1 k i)) : ∀ (n : Nat) (l : Int) (r : Option (Int × Int)) (v : Int) (x5 : Option Value), mo_chn s.2 n l → mo_dr s.2 p n l r → v < 0 → iB v → (∀ l v x5, iB v → ((r = none ∧ v < 0) ∨ (∃ o, r = some (o, v)) ∧ 0 ≤ v) → mw G b ad mM_describedFrom (d + 1) Q 65 [some (.ref b), some (.int (iI f0)), some (.int (iI p)), some (.int (iI l)), some (.int (iI v)), x5, x6, x7, x8] [] s kc ks) → mw G b ad mM_describedFrom (d + 1) Q 5 [some (.ref b), some (.int (iI f0)), some (.int (iI p)), some (.int (iI l)), some (.int (iI v)), x5, x6, x7, x8] [] s kc ks := by
  intro n
  induction n with
  | zero => exact fun l r v x5 hc hr hv hvb hk => mo_df_0' hc hvb (hk l v x5 hvb (Or.inl ⟨hr, hv⟩))
  | succ n ih =>
    intro l r v x5 hc hr hv hvb hk
    rcases hc with hc | ⟨hl, hch⟩
    · rcases hr with ⟨_, e⟩ | ⟨e, _⟩
      · exact mo_df_0' hc hvb (hk l v x5 hvb (Or.inl ⟨e, hv⟩))
      · omega
    · have hl1 := hl.1
      refine mw_iload_n dM_describedFrom_5 rfl ?_
      refine mw_if_le (tgt := 65) dM_describedFrom_6 (by decide) (by first | omega | (simp only [mo_uz_1, mo_uz_2, mo_uf_1, mo_uf_2, mo_uf_22, mo_ug_1, mo_ug_2, mo_ug_22, mo_len, Nat.reduceEqDiff, false_and, true_and, and_true, and_false, if_false, if_true, reduceIte, ite_true, ite_false, ne_eq, not_true_eq_false, not_false_eq_true] at *; omega)) (fun hb6 => absurd hb6 (by first | omega | (simp only [mo_uz_1, mo_uz_2, mo_uf_1, mo_uf_2, mo_uf_22, mo_ug_1, mo_ug_2, mo_ug_22, mo_len, Nat.reduceEqDiff, false_and, true_and, and_true, and_false, if_false, if_true, reduceIte, ite_true, ite_false, ne_eq, not_true_eq_false, not_false_eq_true] at *; omega))) (fun hb6 => ?_)
      refine mw_iload dM_describedFrom_9 rfl ?_
      refine mw_if_ge (tgt := 65) dM_describedFrom_11 (by decide) (by first | omega | (simp only [mo_uz_1, mo_uz_2, mo_uf_1, mo_uf_2, mo_uf_22, mo_ug_1, mo_ug_2, mo_ug_22, mo_len, Nat.reduceEqDiff, false_and, true_and, and_true, and_false, if_false, if_true, reduceIte, ite_true, ite_false, ne_eq, not_true_eq_false, not_false_eq_true] at *; omega)) (fun hb11 => absurd hb11 (by first | omega | (simp only [mo_uz_1, mo_uz_2, mo_uf_1, mo_uf_2, mo_uf_22, mo_ug_1, mo_ug_2, mo_ug_22, mo_len, Nat.reduceEqDiff, false_and, true_and, and_true, and_false, if_false, if_true, reduceIte, ite_true, ite_false, ne_eq, not_true_eq_false, not_false_eq_true] at *; omega))) (fun hb11 => ?_)
      refine mw_iconst dM_describedFrom_14 ?_
      refine mw_istore dM_describedFrom_15 (by decide) rfl ?_
      refine mo_df_i hl hp hgb (fun i v' hvb' hv' => ?_) 0 hl.2.2.1.1 (by decide) v hvb (Or.inl ⟨hv, fun j p1 p2 => absurd p2 (by omega)⟩)
      refine mw_aload_n dM_describedFrom_55 rfl ?_
      refine mw_get dM_describedFrom_56 fM_29 rfl ?_
      refine mw_iload_n dM_describedFrom_59 rfl ?_
      refine mw_iald dM_describedFrom_60 rfl rfl (by simp only [mo_len]; omega) (by omega) (fun hpb => ?_)
      refine mw_istore_n dM_describedFrom_61 (by decide) rfl ?_
      refine mw_goto (tgt := 5) dM_describedFrom_62 (by decide) ?_
      rcases hr with ⟨e, _⟩ | ⟨_, ⟨w, hw, e⟩ | ⟨hn, hr⟩⟩
      · omega
      · rcases hv' with ⟨g1, g2⟩ | ⟨g1, g2⟩
        · exact (mo_dl_n hw g2).elim
        · have e9 := mo_dl_u hl hw g2
          subst e9
          exact mo_df_y hpb g1 hvb' (hk _ _ _ hvb' (Or.inr ⟨⟨l, e⟩, g1⟩))
      · rcases hv' with ⟨g1, g2⟩ | ⟨g1, g2⟩
        · exact ih _ r v' _ hch hr g1 hvb' hk
        · exact (mo_dl_n g2 hn).elim
theorem mo_dg_i {f0 p l v th n3 : Int} (hl : mo_ldr s.2 l) (hp : iB p) (hgb : ∀ k i, iB (s.2.1 k i)) (hk : ∀ i h, ((h = 0 ∧ mo_ndl s.2 l p) ∨ (h = 1 ∧ ¬ mo_ndl s.2 l p)) → mw G b ad mM_describedFrom (d + 1) Q 179 [some (.ref b), some (.int (iI f0)), some (.int (iI p)), some (.int (iI n3)), some (.int (iI v)), some (.int (iI l)), some (.int (iI th)), some (.int (iI h)), some (.int (iI i))] [] s kc ks) : ∀ i : Int, i ≤ s.2.1 8 l → 0 ≤ i → ∀ h, ((h = 0 ∧ ∀ j, 0 ≤ j → j < i → mo_nd s.2 (10 + 4 * l + j) p) ∨ (h = 1 ∧ ¬ mo_ndl s.2 l p)) → mw G b ad mM_describedFrom (d + 1) Q 131 [some (.ref b), some (.int (iI f0)), some (.int (iI p)), some (.int (iI n3)), some (.int (iI v)), some (.int (iI l)), some (.int (iI th)), some (.int (iI h)), some (.int (iI i))] [] s kc ks := by
  refine il_up (s.2.1 8 l) (fun i hi ih h0 h hh => ?_)
  have hl1 := hl.1
  have hl3 := hl.2.2.1
  have hhb : h = 0 ∨ h = 1 := by rcases hh with hh | hh <;> omega
  refine mw_iload dM_describedFrom_131 rfl ?_
  refine mw_aload_n dM_describedFrom_133 rfl ?_
  refine mw_get dM_describedFrom_134 fM_32 rfl ?_
  refine mw_iload dM_describedFrom_137 rfl ?_
  refine mw_iald dM_describedFrom_139 rfl rfl (by first | omega | (simp only [mo_uz_1, mo_uz_2, mo_uf_1, mo_uf_2, mo_uf_22, mo_ug_1, mo_ug_2, mo_ug_22, mo_len, Nat.reduceEqDiff, false_and, true_and, and_true, and_false, if_false, if_true, reduceIte, ite_true, ite_false, ne_eq, not_true_eq_false, not_false_eq_true] at *; omega)) (by first | omega | (simp only [mo_uz_1, mo_uz_2, mo_uf_1, mo_uf_2, mo_uf_22, mo_ug_1, mo_ug_2, mo_ug_22, mo_len, Nat.reduceEqDiff, false_and, true_and, and_true, and_false, if_false, if_true, reduceIte, ite_true, ite_false, ne_eq, not_true_eq_false, not_false_eq_true] at *; omega)) (fun hv139 => ?_)
  refine mw_icmp_ge (tgt := 179) dM_describedFrom_140 (by decide) (by first | omega | (simp only [mo_uz_1, mo_uz_2, mo_uf_1, mo_uf_2, mo_uf_22, mo_ug_1, mo_ug_2, mo_ug_22, mo_len, Nat.reduceEqDiff, false_and, true_and, and_true, and_false, if_false, if_true, reduceIte, ite_true, ite_false, ne_eq, not_true_eq_false, not_false_eq_true] at *; omega)) (by first | omega | (simp only [mo_uz_1, mo_uz_2, mo_uf_1, mo_uf_2, mo_uf_22, mo_ug_1, mo_ug_2, mo_ug_22, mo_len, Nat.reduceEqDiff, false_and, true_and, and_true, and_false, if_false, if_true, reduceIte, ite_true, ite_false, ne_eq, not_true_eq_false, not_false_eq_true] at *; omega)) (fun hb140 => ?_) (fun hb140 => ?_)
  · refine hk i h ?_
    rcases hh with ⟨g1, g2⟩ | ⟨g1, g2⟩
    · exact Or.inl ⟨g1, fun j p1 p2 => g2 j p1 (by omega)⟩
    · exact Or.inr ⟨g1, g2⟩
  · have hu9 := hl.2.2.2.2.1 i h0 (by omega)
    refine mw_iload dM_describedFrom_143 rfl ?_
    refine mw_if_ne (tgt := 166) dM_describedFrom_145 (by decide) (by first | omega | (simp only [mo_uz_1, mo_uz_2, mo_uf_1, mo_uf_2, mo_uf_22, mo_ug_1, mo_ug_2, mo_ug_22, mo_len, Nat.reduceEqDiff, false_and, true_and, and_true, and_false, if_false, if_true, reduceIte, ite_true, ite_false, ne_eq, not_true_eq_false, not_false_eq_true] at *; omega)) (fun hb145 => ?_) (fun hb145 => ?_)
    · refine mw_iconst dM_describedFrom_166 ?_
      refine mw_goto (tgt := 171) dM_describedFrom_167 (by decide) ?_
      refine mw_istore dM_describedFrom_171 (by decide) rfl ?_
      refine mw_iinc dM_describedFrom_173 rfl (by decide) rfl ?_
      refine mw_goto (tgt := 131) dM_describedFrom_176 (by decide) ?_
      refine ih (by omega) (by omega) _ ?_
      first
        | (rcases hr with ⟨q1, q2⟩ | ⟨k, q1, q2, q3, q4, q5⟩
           · first
               | (exfalso; omega)
               | (rcases hh with ⟨g1, g2⟩ | ⟨g1, g2⟩
                  · refine Or.inl ⟨rfl, fun j p1 p2 => ?_⟩
                    by_cases e : j = i
                    · subst e; exact q2
                    · exact g2 j p1 (by omega)
                  · exfalso; omega)
           · have q1 : r = s.2.1 4 (8 * (10 + 4 * l + i) + 2 * k + 1) := q1
             have q6 : 0 ≤ s.2.1 4 (8 * (10 + 4 * l + i) + 2 * k + 1) := hu9.2.2.2.2 k q2 q3
             first
               | (exfalso; omega)
               | exact Or.inr ⟨rfl, fun z => z i h0 (by omega) k q2 q3 q4⟩)
        | (rcases hh with ⟨g1, g2⟩ | ⟨g1, g2⟩
           · exfalso; omega
           · exact Or.inr ⟨rfl, g2⟩)
    · refine mw_aload_n dM_describedFrom_148 rfl ?_
      refine mw_bipush dM_describedFrom_149 (by decide +kernel) ?_
      refine mw_iconst dM_describedFrom_151 ?_
      refine mw_iload dM_describedFrom_152 rfl ?_
      refine mw_imul dM_describedFrom_154 ?_
      refine mw_iadd dM_describedFrom_155 ?_
      refine mw_iload dM_describedFrom_156 rfl ?_
      refine mw_iadd dM_describedFrom_158 ?_
      refine mw_iload_n dM_describedFrom_159 rfl ?_
      refine mw_callV2 dM_describedFrom_160 cM_118 (Nat.le_of_ble_eq_true rfl) (Nat.le_of_ble_eq_true rfl) rfl ?_
      refine mo_described (by omega) hp hu9.2.1 (fun r hr => ?_)
      have hr : mo_lm (fun j => s.2.1 4 (8 * (10 + 4 * l + i) + 2 * j) = p) (fun k => s.2.1 4 (8 * (10 + 4 * l + i) + 2 * k + 1)) (s.2.1 3 (10 + 4 * l + i)) r := hr
      have hrb : iB r := by
        rcases hr with ⟨q1, q2⟩ | ⟨k, q1, q2, q3, q4, q5⟩
        · omega
        · have q1 : r = s.2.1 4 (8 * (10 + 4 * l + i) + 2 * k + 1) := q1
          rw [q1]; exact hgb _ _
      refine mw_if_lt (tgt := 170) dM_describedFrom_163 (by decide) (by first | omega | (simp only [mo_uz_1, mo_uz_2, mo_uf_1, mo_uf_2, mo_uf_22, mo_ug_1, mo_ug_2, mo_ug_22, mo_len, Nat.reduceEqDiff, false_and, true_and, and_true, and_false, if_false, if_true, reduceIte, ite_true, ite_false, ne_eq, not_true_eq_false, not_false_eq_true] at *; omega)) (fun hb163 => ?_) (fun hb163 => ?_)
      · refine mw_iconst dM_describedFrom_170 ?_
        refine mw_istore dM_describedFrom_171 (by decide) rfl ?_
        refine mw_iinc dM_describedFrom_173 rfl (by decide) rfl ?_
        refine mw_goto (tgt := 131) dM_describedFrom_176 (by decide) ?_
        refine ih (by omega) (by omega) _ ?_
        first
          | (rcases hr with ⟨q1, q2⟩ | ⟨k, q1, q2, q3, q4, q5⟩
             · first
                 | (exfalso; omega)
                 | (rcases hh with ⟨g1, g2⟩ | ⟨g1, g2⟩
                    · refine Or.inl ⟨rfl, fun j p1 p2 => ?_⟩
                      by_cases e : j = i
                      · subst e; exact q2
                      · exact g2 j p1 (by omega)
                    · exfalso; omega)
             · have q1 : r = s.2.1 4 (8 * (10 + 4 * l + i) + 2 * k + 1) := q1
               have q6 : 0 ≤ s.2.1 4 (8 * (10 + 4 * l + i) + 2 * k + 1) := hu9.2.2.2.2 k q2 q3
               first
                 | (exfalso; omega)
                 | exact Or.inr ⟨rfl, fun z => z i h0 (by omega) k q2 q3 q4⟩)
          | (rcases hh with ⟨g1, g2⟩ | ⟨g1, g2⟩
             · exfalso; omega
             · exact Or.inr ⟨rfl, g2⟩)
      · refine mw_iconst dM_describedFrom_166 ?_
        refine mw_goto (tgt := 171) dM_describedFrom_167 (by decide) ?_
        refine mw_istore dM_describedFrom_171 (by decide) rfl ?_
        refine mw_iinc dM_describedFrom_173 rfl (by decide) rfl ?_
        refine mw_goto (tgt := 131) dM_describedFrom_176 (by decide) ?_
        refine ih (by omega) (by omega) _ ?_
        first
          | (rcases hr with ⟨q1, q2⟩ | ⟨k, q1, q2, q3, q4, q5⟩
             · first
                 | (exfalso; omega)
                 | (rcases hh with ⟨g1, g2⟩ | ⟨g1, g2⟩
                    · refine Or.inl ⟨rfl, fun j p1 p2 => ?_⟩
                      by_cases e : j = i
                      · subst e; exact q2
                      · exact g2 j p1 (by omega)
                    · exfalso; omega)
             · have q1 : r = s.2.1 4 (8 * (10 + 4 * l + i) + 2 * k + 1) := q1
               have q6 : 0 ≤ s.2.1 4 (8 * (10 + 4 * l + i) + 2 * k + 1) := hu9.2.2.2.2 k q2 q3
               first
                 | (exfalso; omega)
                 | exact Or.inr ⟨rfl, fun z => z i h0 (by omega) k q2 q3 q4⟩)
          | (rcases hh with ⟨g1, g2⟩ | ⟨g1, g2⟩
             · exfalso; omega
             · exact Or.inr ⟨rfl, g2⟩)
theorem mo_dg_x {f0 p l v th n3 h : Int} {x8 : Option Value} (hlb : iB l) (hh : h = 1) (hk : mw G b ad mM_describedFrom d Q 191 [some (.ref b), some (.int (iI f0)), some (.int (iI p)), some (.int (iI n3)), some (.int (iI v)), some (.int (iI l)), some (.int (iI th)), some (.int (iI h)), x8] [] s kc ks) : mw G b ad mM_describedFrom d Q 84 [some (.ref b), some (.int (iI f0)), some (.int (iI p)), some (.int (iI n3)), some (.int (iI v)), some (.int (iI l)), some (.int (iI th)), some (.int (iI h)), x8] [] s kc ks := by
  refine mw_iload dM_describedFrom_84 rfl ?_
  refine mw_if_le (tgt := 191) dM_describedFrom_86 (by decide) (by first | omega | (simp only [mo_uz_1, mo_uz_2, mo_uf_1, mo_uf_2, mo_uf_22, mo_ug_1, mo_ug_2, mo_ug_22, mo_len, Nat.reduceEqDiff, false_and, true_and, and_true, and_false, if_false, if_true, reduceIte, ite_true, ite_false, ne_eq, not_true_eq_false, not_false_eq_true] at *; omega)) (fun hb86 => ?_) (fun hb86 => ?_)
  · exact hk
  · refine mw_iload dM_describedFrom_89 rfl ?_
    refine mw_if_ne (tgt := 191) dM_describedFrom_91 (by decide) (by first | omega | (simp only [mo_uz_1, mo_uz_2, mo_uf_1, mo_uf_2, mo_uf_22, mo_ug_1, mo_ug_2, mo_ug_22, mo_len, Nat.reduceEqDiff, false_and, true_and, and_true, and_false, if_false, if_true, reduceIte, ite_true, ite_false, ne_eq, not_true_eq_false, not_false_eq_true] at *; omega)) (fun hb91 => ?_) (fun hb91 => absurd hb91 (by omega))
    exact hk
theorem mo_dg_t {f0 p l v th n3 h : Int} {x8 : Option Value} (hl : 1 ≤ l ∧ l ≤ 40) (hb : h = 0 ∨ h = 1) (h0 : h = 0 → mw G b ad mM_describedFrom d Q 84 [some (.ref b), some (.int (iI f0)), some (.int (iI p)), some (.int (iI n3)), some (.int (iI v)), some (.int (iI (s.2.1 7 l))), some (.int (iI th)), some (.int (iI h)), x8] [] s kc ks) (h1 : h = 1 → mw G b ad mM_describedFrom d Q 191 [some (.ref b), some (.int (iI f0)), some (.int (iI p)), some (.int (iI n3)), some (.int (iI v)), some (.int (iI (s.2.1 7 l))), some (.int (iI th)), some (.int (iI h)), x8] [] s kc ks) : mw G b ad mM_describedFrom d Q 179 [some (.ref b), some (.int (iI f0)), some (.int (iI p)), some (.int (iI n3)), some (.int (iI v)), some (.int (iI l)), some (.int (iI th)), some (.int (iI h)), x8] [] s kc ks := by
  refine mw_aload_n dM_describedFrom_179 rfl ?_
  refine mw_get dM_describedFrom_180 fM_29 rfl ?_
  refine mw_iload dM_describedFrom_183 rfl ?_
  refine mw_iald dM_describedFrom_185 rfl rfl (by first | omega | (simp only [mo_uz_1, mo_uz_2, mo_uf_1, mo_uf_2, mo_uf_22, mo_ug_1, mo_ug_2, mo_ug_22, mo_len, Nat.reduceEqDiff, false_and, true_and, and_true, and_false, if_false, if_true, reduceIte, ite_true, ite_false, ne_eq, not_true_eq_false, not_false_eq_true] at *; omega)) (by first | omega | (simp only [mo_uz_1, mo_uz_2, mo_uf_1, mo_uf_2, mo_uf_22, mo_ug_1, mo_ug_2, mo_ug_22, mo_len, Nat.reduceEqDiff, false_and, true_and, and_true, and_false, if_false, if_true, reduceIte, ite_true, ite_false, ne_eq, not_true_eq_false, not_false_eq_true] at *; omega)) (fun hv185 => ?_)
  refine mw_istore dM_describedFrom_186 (by decide) rfl ?_
  refine mw_goto (tgt := 84) dM_describedFrom_188 (by decide) ?_
  rcases hb with e | e
  · exact h0 e
  · exact mo_dg_x hv185 e (h1 e)
theorem mo_dg_e {f0 p l v th n3 h : Int} {x8 : Option Value} (hth : th = 0 ∨ th = 1) (h1 : th = 1 → Q (.inl (some (.int (iI v)))) s) (h0 : th = 0 → Q (.inl (some (.int (iI (-1))))) s) : mw G b ad mM_describedFrom d Q 191 [some (.ref b), some (.int (iI f0)), some (.int (iI p)), some (.int (iI n3)), some (.int (iI v)), some (.int (iI l)), some (.int (iI th)), some (.int (iI h)), x8] [] s kc ks := by
  refine mw_iload dM_describedFrom_191 rfl ?_
  refine mw_if_eq (tgt := 201) dM_describedFrom_193 (by decide) (by first | omega | (simp only [mo_uz_1, mo_uz_2, mo_uf_1, mo_uf_2, mo_uf_22, mo_ug_1, mo_ug_2, mo_ug_22, mo_len, Nat.reduceEqDiff, false_and, true_and, and_true, and_false, if_false, if_true, reduceIte, ite_true, ite_false, ne_eq, not_true_eq_false, not_false_eq_true] at *; omega)) (fun hb193 => ?_) (fun hb193 => ?_)
  · refine mw_iconst dM_describedFrom_201 ?_
    refine mw_iret dM_describedFrom_202 rfl ?_
    first | exact h1 (by first | omega | (simp only [mo_uz_1, mo_uz_2, mo_uf_1, mo_uf_2, mo_uf_22, mo_ug_1, mo_ug_2, mo_ug_22, mo_len, Nat.reduceEqDiff, false_and, true_and, and_true, and_false, if_false, if_true, reduceIte, ite_true, ite_false, ne_eq, not_true_eq_false, not_false_eq_true] at *; omega)) | exact h0 (by first | omega | (simp only [mo_uz_1, mo_uz_2, mo_uf_1, mo_uf_2, mo_uf_22, mo_ug_1, mo_ug_2, mo_ug_22, mo_len, Nat.reduceEqDiff, false_and, true_and, and_true, and_false, if_false, if_true, reduceIte, ite_true, ite_false, ne_eq, not_true_eq_false, not_false_eq_true] at *; omega))
  · refine mw_iload dM_describedFrom_196 rfl ?_
    refine mw_goto (tgt := 202) dM_describedFrom_198 (by decide) ?_
    refine mw_iret dM_describedFrom_202 rfl ?_
    first | exact h1 (by first | omega | (simp only [mo_uz_1, mo_uz_2, mo_uf_1, mo_uf_2, mo_uf_22, mo_ug_1, mo_ug_2, mo_ug_22, mo_len, Nat.reduceEqDiff, false_and, true_and, and_true, and_false, if_false, if_true, reduceIte, ite_true, ite_false, ne_eq, not_true_eq_false, not_false_eq_true] at *; omega)) | exact h0 (by first | omega | (simp only [mo_uz_1, mo_uz_2, mo_uf_1, mo_uf_2, mo_uf_22, mo_ug_1, mo_ug_2, mo_ug_22, mo_len, Nat.reduceEqDiff, false_and, true_and, and_true, and_false, if_false, if_true, reduceIte, ite_true, ite_false, ne_eq, not_true_eq_false, not_false_eq_true] at *; omega))
theorem mo_dg_l {f0 p v n3 : Int} (hp : iB p) (hvb : iB v) (hgb : ∀ k i, iB (s.2.1 k i)) : ∀ (n : Nat) (l th : Int) (x8 : Option Value), mo_chn s.2 n l → (th = 0 ∨ th = 1) → (th = 1 → mo_lt s.2 p v n l → Q (.inl (some (.int (iI v)))) s) → (¬ (th = 1 ∧ mo_lt s.2 p v n l) → Q (.inl (some (.int (iI (-1))))) s) → mw G b ad mM_describedFrom (d + 1) Q 84 [some (.ref b), some (.int (iI f0)), some (.int (iI p)), some (.int (iI n3)), some (.int (iI v)), some (.int (iI l)), some (.int (iI th)), some (.int (iI 0)), x8] [] s kc ks := by
  have base : ∀ (l th : Int) (x8 : Option Value), l = 0 → (th = 0 ∨ th = 1) → (th = 1 → Q (.inl (some (.int (iI v)))) s) → (th = 0 → Q (.inl (some (.int (iI (-1))))) s) → mw G b ad mM_describedFrom (d + 1) Q 84 [some (.ref b), some (.int (iI f0)), some (.int (iI p)), some (.int (iI n3)), some (.int (iI v)), some (.int (iI l)), some (.int (iI th)), some (.int (iI 0)), x8] [] s kc ks := by
    intro l th x8 hl0 hth h1 h0
    refine mw_iload dM_describedFrom_84 rfl ?_
    refine mw_if_le (tgt := 191) dM_describedFrom_86 (by decide) (by first | omega | (simp only [mo_uz_1, mo_uz_2, mo_uf_1, mo_uf_2, mo_uf_22, mo_ug_1, mo_ug_2, mo_ug_22, mo_len, Nat.reduceEqDiff, false_and, true_and, and_true, and_false, if_false, if_true, reduceIte, ite_true, ite_false, ne_eq, not_true_eq_false, not_false_eq_true] at *; omega)) (fun hb86 => ?_) (fun hb86 => absurd hb86 (by omega))
    exact mo_dg_e hth h1 h0
  intro n
  induction n with
  | zero => exact fun l th x8 hc hth hy hn => base l th x8 hc hth (fun e => hy e True.intro) (fun e => hn (fun z => by omega))
  | succ n ih =>
    intro l th x8 hc hth hy hn
    rcases hc with hc | ⟨hl, hch⟩
    · exact base l th x8 hc hth (fun e => hy e (Or.inl hc)) (fun e => hn (fun z => by omega))
    · have hl1 := hl.1
      refine mw_iload dM_describedFrom_84 rfl ?_
      refine mw_if_le (tgt := 191) dM_describedFrom_86 (by decide) (by first | omega | (simp only [mo_uz_1, mo_uz_2, mo_uf_1, mo_uf_2, mo_uf_22, mo_ug_1, mo_ug_2, mo_ug_22, mo_len, Nat.reduceEqDiff, false_and, true_and, and_true, and_false, if_false, if_true, reduceIte, ite_true, ite_false, ne_eq, not_true_eq_false, not_false_eq_true] at *; omega)) (fun hb86 => absurd hb86 (by omega)) (fun hb86 => ?_)
      refine mw_iload dM_describedFrom_89 rfl ?_
      refine mw_if_ne (tgt := 191) dM_describedFrom_91 (by decide) (by first | omega | (simp only [mo_uz_1, mo_uz_2, mo_uf_1, mo_uf_2, mo_uf_22, mo_ug_1, mo_ug_2, mo_ug_22, mo_len, Nat.reduceEqDiff, false_and, true_and, and_true, and_false, if_false, if_true, reduceIte, ite_true, ite_false, ne_eq, not_true_eq_false, not_false_eq_true] at *; omega)) (fun hb91 => absurd hb91 (by decide)) (fun hb91 => ?_)
      refine mw_aload_n dM_describedFrom_94 rfl ?_
      refine mw_get dM_describedFrom_95 fM_26 rfl ?_
      refine mw_iload dM_describedFrom_98 rfl ?_
      refine mw_iald dM_describedFrom_100 rfl rfl (by first | omega | (simp only [mo_uz_1, mo_uz_2, mo_uf_1, mo_uf_2, mo_uf_22, mo_ug_1, mo_ug_2, mo_ug_22, mo_len, Nat.reduceEqDiff, false_and, true_and, and_true, and_false, if_false, if_true, reduceIte, ite_true, ite_false, ne_eq, not_true_eq_false, not_false_eq_true] at *; omega)) (by first | omega | (simp only [mo_uz_1, mo_uz_2, mo_uf_1, mo_uf_2, mo_uf_22, mo_ug_1, mo_ug_2, mo_ug_22, mo_len, Nat.reduceEqDiff, false_and, true_and, and_true, and_false, if_false, if_true, reduceIte, ite_true, ite_false, ne_eq, not_true_eq_false, not_false_eq_true] at *; omega)) (fun hv100 => ?_)
      refine mw_iconst dM_describedFrom_101 ?_
      refine mw_icmp_ne (tgt := 128) dM_describedFrom_102 (by decide) (by first | omega | (simp only [mo_uz_1, mo_uz_2, mo_uf_1, mo_uf_2, mo_uf_22, mo_ug_1, mo_ug_2, mo_ug_22, mo_len, Nat.reduceEqDiff, false_and, true_and, and_true, and_false, if_false, if_true, reduceIte, ite_true, ite_false, ne_eq, not_true_eq_false, not_false_eq_true] at *; omega)) (by first | omega | (simp only [mo_uz_1, mo_uz_2, mo_uf_1, mo_uf_2, mo_uf_22, mo_ug_1, mo_ug_2, mo_ug_22, mo_len, Nat.reduceEqDiff, false_and, true_and, and_true, and_false, if_false, if_true, reduceIte, ite_true, ite_false, ne_eq, not_true_eq_false, not_false_eq_true] at *; omega)) (fun hb102 => ?_) (fun hb102 => ?_)
      · try have hk6 : ¬ s.2.1 6 l = 2 := by omega
        refine mw_iconst dM_describedFrom_128 ?_
        refine mw_istore dM_describedFrom_129 (by decide) rfl ?_
        refine mo_dg_i hl hp hgb (fun i h hh => mo_dg_t hl1 (by rcases hh with hh | hh <;> omega) (fun e => ?_) (fun e => ?_)) 0 hl.2.2.1.1 (by decide) 0 (Or.inl ⟨rfl, fun j p1 p2 => absurd p2 (by omega)⟩)
        · rcases hh with ⟨_, g2⟩ | ⟨g1, _⟩
          · subst e
            refine ih _ _ _ hch (by omega) (fun e1 e2 => ?_) (fun e1 => ?_)
            · first
                | exact hy (by omega) (Or.inr (Or.inr ⟨g2, fun _ => ha, e2⟩))
                | exact hy e1 (Or.inr (Or.inr ⟨g2, fun z => absurd z hk6, e2⟩))
                | omega
            · refine hn (fun z => ?_)
              rcases z with ⟨z0, z | z | ⟨z1, z2, z3⟩⟩
              · omega
              · exact z g2
              · first
                  | exact ha (z2 hk6)
                  | exact e1 ⟨rfl, z3⟩
                  | exact e1 ⟨z0, z3⟩
                  | omega
          · omega
        · rcases hh with ⟨g1, _⟩ | ⟨_, g2⟩
          · omega
          · first
              | exact absurd (fun i q1 q2 => absurd (hl.2.2.2.1 hk6) (by omega)) g2
              | exact mo_dg_e hth (fun e1 => hy e1 (Or.inr (Or.inl g2))) (fun e1 => hn (fun z => by omega))
      · have hk6 : s.2.1 6 l = 2 := by omega
        refine mw_iload dM_describedFrom_105 rfl ?_
        refine mw_if_eq (tgt := 125) dM_describedFrom_107 (by decide) (by first | omega | (simp only [mo_uz_1, mo_uz_2, mo_uf_1, mo_uf_2, mo_uf_22, mo_ug_1, mo_ug_2, mo_ug_22, mo_len, Nat.reduceEqDiff, false_and, true_and, and_true, and_false, if_false, if_true, reduceIte, ite_true, ite_false, ne_eq, not_true_eq_false, not_false_eq_true] at *; omega)) (fun hb107 => ?_) (fun hb107 => ?_)
        · refine mw_iconst dM_describedFrom_125 ?_
          refine mw_istore dM_describedFrom_126 (by decide) rfl ?_
          try have hk6 : ¬ s.2.1 6 l = 2 := by omega
          refine mw_iconst dM_describedFrom_128 ?_
          refine mw_istore dM_describedFrom_129 (by decide) rfl ?_
          refine mo_dg_i hl hp hgb (fun i h hh => mo_dg_t hl1 (by rcases hh with hh | hh <;> omega) (fun e => ?_) (fun e => ?_)) 0 hl.2.2.1.1 (by decide) 0 (Or.inl ⟨rfl, fun j p1 p2 => absurd p2 (by omega)⟩)
          · rcases hh with ⟨_, g2⟩ | ⟨g1, _⟩
            · subst e
              refine ih _ _ _ hch (by omega) (fun e1 e2 => ?_) (fun e1 => ?_)
              · first
                  | exact hy (by omega) (Or.inr (Or.inr ⟨g2, fun _ => ha, e2⟩))
                  | exact hy e1 (Or.inr (Or.inr ⟨g2, fun z => absurd z hk6, e2⟩))
                  | omega
              · refine hn (fun z => ?_)
                rcases z with ⟨z0, z | z | ⟨z1, z2, z3⟩⟩
                · omega
                · exact z g2
                · first
                    | exact ha (z2 hk6)
                    | exact e1 ⟨rfl, z3⟩
                    | exact e1 ⟨z0, z3⟩
                    | omega
            · omega
          · rcases hh with ⟨g1, _⟩ | ⟨_, g2⟩
            · omega
            · first
                | exact absurd (fun i q1 q2 => absurd (hl.2.2.2.1 hk6) (by omega)) g2
                | exact mo_dg_e hth (fun e1 => hy e1 (Or.inr (Or.inl g2))) (fun e1 => hn (fun z => by omega))
        · refine mw_aload_n dM_describedFrom_110 rfl ?_
          refine mw_iload dM_describedFrom_111 rfl ?_
          refine mw_iload dM_describedFrom_113 rfl ?_
          refine mw_callV2 dM_describedFrom_115 cM_160 (Nat.le_of_ble_eq_true rfl) (Nat.le_of_ble_eq_true rfl) rfl ?_
          refine mo_admits (by omega) hvb (fun ha => ?_) (fun ha => ?_)
          · have ha : mo_adm (mo_s0 s.2) l v := ha
            refine mw_if_eq (tgt := 125) dM_describedFrom_118 (by decide) (by first | omega | (simp only [mo_uz_1, mo_uz_2, mo_uf_1, mo_uf_2, mo_uf_22, mo_ug_1, mo_ug_2, mo_ug_22, mo_len, Nat.reduceEqDiff, false_and, true_and, and_true, and_false, if_false, if_true, reduceIte, ite_true, ite_false, ne_eq, not_true_eq_false, not_false_eq_true] at *; omega)) (fun hb118 => absurd hb118 (by decide)) (fun _ => ?_)
            refine mw_iconst dM_describedFrom_121 ?_
            refine mw_goto (tgt := 126) dM_describedFrom_122 (by decide) ?_
            refine mw_istore dM_describedFrom_126 (by decide) rfl ?_
            try have hk6 : ¬ s.2.1 6 l = 2 := by omega
            refine mw_iconst dM_describedFrom_128 ?_
            refine mw_istore dM_describedFrom_129 (by decide) rfl ?_
            refine mo_dg_i hl hp hgb (fun i h hh => mo_dg_t hl1 (by rcases hh with hh | hh <;> omega) (fun e => ?_) (fun e => ?_)) 0 hl.2.2.1.1 (by decide) 0 (Or.inl ⟨rfl, fun j p1 p2 => absurd p2 (by omega)⟩)
            · rcases hh with ⟨_, g2⟩ | ⟨g1, _⟩
              · subst e
                refine ih _ _ _ hch (by omega) (fun e1 e2 => ?_) (fun e1 => ?_)
                · first
                    | exact hy (by omega) (Or.inr (Or.inr ⟨g2, fun _ => ha, e2⟩))
                    | exact hy e1 (Or.inr (Or.inr ⟨g2, fun z => absurd z hk6, e2⟩))
                    | omega
                · refine hn (fun z => ?_)
                  rcases z with ⟨z0, z | z | ⟨z1, z2, z3⟩⟩
                  · omega
                  · exact z g2
                  · first
                      | exact ha (z2 hk6)
                      | exact e1 ⟨rfl, z3⟩
                      | exact e1 ⟨z0, z3⟩
                      | omega
              · omega
            · rcases hh with ⟨g1, _⟩ | ⟨_, g2⟩
              · omega
              · first
                  | exact absurd (fun i q1 q2 => absurd (hl.2.2.2.1 hk6) (by omega)) g2
                  | exact mo_dg_e hth (fun e1 => hy e1 (Or.inr (Or.inl g2))) (fun e1 => hn (fun z => by omega))
          · have ha : ¬ mo_adm (mo_s0 s.2) l v := ha
            refine mw_if_eq (tgt := 125) dM_describedFrom_118 (by decide) (by first | omega | (simp only [mo_uz_1, mo_uz_2, mo_uf_1, mo_uf_2, mo_uf_22, mo_ug_1, mo_ug_2, mo_ug_22, mo_len, Nat.reduceEqDiff, false_and, true_and, and_true, and_false, if_false, if_true, reduceIte, ite_true, ite_false, ne_eq, not_true_eq_false, not_false_eq_true] at *; omega)) (fun _ => ?_) (fun hb118 => absurd hb118 (by decide))
            refine mw_iconst dM_describedFrom_125 ?_
            refine mw_istore dM_describedFrom_126 (by decide) rfl ?_
            try have hk6 : ¬ s.2.1 6 l = 2 := by omega
            refine mw_iconst dM_describedFrom_128 ?_
            refine mw_istore dM_describedFrom_129 (by decide) rfl ?_
            refine mo_dg_i hl hp hgb (fun i h hh => mo_dg_t hl1 (by rcases hh with hh | hh <;> omega) (fun e => ?_) (fun e => ?_)) 0 hl.2.2.1.1 (by decide) 0 (Or.inl ⟨rfl, fun j p1 p2 => absurd p2 (by omega)⟩)
            · rcases hh with ⟨_, g2⟩ | ⟨g1, _⟩
              · subst e
                refine ih _ _ _ hch (by omega) (fun e1 e2 => ?_) (fun e1 => ?_)
                · first
                    | exact hy (by omega) (Or.inr (Or.inr ⟨g2, fun _ => ha, e2⟩))
                    | exact hy e1 (Or.inr (Or.inr ⟨g2, fun z => absurd z hk6, e2⟩))
                    | omega
                · refine hn (fun z => ?_)
                  rcases z with ⟨z0, z | z | ⟨z1, z2, z3⟩⟩
                  · omega
                  · exact z g2
                  · first
                      | exact ha (z2 hk6)
                      | exact e1 ⟨rfl, z3⟩
                      | exact e1 ⟨z0, z3⟩
                      | omega
              · omega
            · rcases hh with ⟨g1, _⟩ | ⟨_, g2⟩
              · omega
              · first
                  | exact absurd (fun i q1 q2 => absurd (hl.2.2.2.1 hk6) (by omega)) g2
                  | exact mo_dg_e hth (fun e1 => hy e1 (Or.inr (Or.inl g2))) (fun e1 => hn (fun z => by omega))
theorem mo_describedFrom {f0 p : Int} {n : Nat} {r : Option (Int × Int)} (hp : iB p) (hc : mo_chn s.2 n f0) (hr : mo_dr s.2 p n f0 r) (hneg : ∀ v, iB v → r = none → v < 0 → Q (.inl (some (.int (iI v)))) s) (hsome : ∀ o v, r = some (o, v) → (v < 8 ∨ mo_lt s.2 p v n f0) → Q (.inl (some (.int (iI v)))) s) (hno : ∀ o v, r = some (o, v) → 8 ≤ v → ¬ mo_lt s.2 p v n f0 → Q (.inl (some (.int (iI (-1))))) s) : mw G b ad mM_describedFrom (d + 1) Q 0 [some (.ref b), some (.int (iI f0)), some (.int (iI p)), none, none, none, none, none, none] [] s kc ks := by
  refine mw_gb (fun _ hgb => ?_)
  refine mw_iload_n dM_describedFrom_0 rfl ?_
  refine mw_istore_n dM_describedFrom_1 (by decide) rfl ?_
  refine mw_iconst dM_describedFrom_2 ?_
  refine mw_istore dM_describedFrom_3 (by decide) rfl ?_
  refine mo_df_l hp hgb n f0 r (-1) _ hc hr (by decide) (by decide) (fun l v x5 hvb hv => ?_)
  refine mw_iload dM_describedFrom_65 rfl ?_
  refine mw_bipush dM_describedFrom_67 (by decide +kernel) ?_
  refine mw_icmp_ge (tgt := 75) dM_describedFrom_69 (by decide) (by first | omega | (simp only [mo_uz_1, mo_uz_2, mo_uf_1, mo_uf_2, mo_uf_22, mo_ug_1, mo_ug_2, mo_ug_22, mo_len, Nat.reduceEqDiff, false_and, true_and, and_true, and_false, if_false, if_true, reduceIte, ite_true, ite_false, ne_eq, not_true_eq_false, not_false_eq_true] at *; omega)) (by first | omega | (simp only [mo_uz_1, mo_uz_2, mo_uf_1, mo_uf_2, mo_uf_22, mo_ug_1, mo_ug_2, mo_ug_22, mo_len, Nat.reduceEqDiff, false_and, true_and, and_true, and_false, if_false, if_true, reduceIte, ite_true, ite_false, ne_eq, not_true_eq_false, not_false_eq_true] at *; omega)) (fun hb69 => ?_) (fun hb69 => ?_)
  · refine mw_iload_n dM_describedFrom_75 rfl ?_
    refine mw_istore dM_describedFrom_76 (by decide) rfl ?_
    refine mw_iconst dM_describedFrom_78 ?_
    refine mw_istore dM_describedFrom_79 (by decide) rfl ?_
    refine mw_iconst dM_describedFrom_81 ?_
    refine mw_istore dM_describedFrom_82 (by decide) rfl ?_
    rcases hv with ⟨e1, e2⟩ | ⟨⟨o, e⟩, e2⟩
    · omega
    · exact mo_dg_l hp hvb hgb n f0 1 _ hc (Or.inr rfl) (fun _ z => hsome o v e (Or.inr z)) (fun z => hno o v e (by omega) (fun q => z ⟨rfl, q⟩))
  · refine mw_iload dM_describedFrom_72 rfl ?_
    refine mw_iret dM_describedFrom_74 rfl ?_
    rcases hv with ⟨e1, e2⟩ | ⟨⟨o, e⟩, e2⟩
    · exact hneg v hvb e1 e2
    · exact hsome o v e (Or.inl (by omega))

end MO13
