/-! the reference: add, descends, isA, fileOf, described, freeLoader(s), begin, definedBy, admits, copySheet -/
section MO4
variable {G : aw_G} {b : Nat} {ad : Nat → Nat} {d : Nat} {Q : aw_O → mo_S → Prop} {s : mo_S} {kc ks : Nat}
theorem mw_eq {M : aw_M} {pc : Nat} {L : List (Option Value)} {st : List Value} {s1 s2 : mo_S} (h : s1 = s2) (k : mw G b ad M d Q pc L st s2 kc ks) : mw G b ad M d Q pc L st s1 kc ks := h ▸ k
theorem mw_lo {M : aw_M} {pc : Nat} {L1 L2 : List (Option Value)} {st : List Value} {s1 : mo_S} (h : L1 = L2) (k : mw G b ad M d Q pc L2 st s1 kc ks) : mw G b ad M d Q pc L1 st s1 kc ks := h ▸ k
def mo_up (f : Int → Int) : Nat → Int → Int
  | 0, c => c
  | n + 1, c => mo_up f n (f c)
def mo_dsc (f : Int → Int) (t o : Int) : Prop := ∃ n : Nat, mo_up f n t = o ∧ ∀ m, m ≤ n → 0 ≤ mo_up f m t
theorem mo_dsc_iff (f : Int → Int) (c o : Int) : mo_dsc f c o ↔ 0 ≤ c ∧ (c = o ∨ mo_dsc f (f c) o) := by
  constructor
  · rintro ⟨n, h1, h2⟩
    refine ⟨h2 0 (Nat.zero_le _), ?_⟩
    cases n with
    | zero => exact Or.inl h1
    | succ n => exact Or.inr ⟨n, h1, fun m hm => h2 (m + 1) (by omega)⟩
  · rintro ⟨h0, h | ⟨n, h1, h2⟩⟩
    · exact ⟨0, h, fun m hm => by rw [Nat.le_zero.mp hm]; exact h0⟩
    · refine ⟨n + 1, h1, fun m hm => ?_⟩
      cases m with
      | zero => exact h0
      | succ m => exact h2 m (by omega)
theorem il_dn {P : Int → Prop} (step : ∀ c, -1 ≤ c → (∀ c', c' < c → -1 ≤ c' → P c') → P c) : ∀ c, -1 ≤ c → P c := by
  have key : ∀ (t : Nat) (c : Int), -1 ≤ c → (c + 1).toNat ≤ t → P c := by
    intro t
    induction t with
    | zero => exact fun c h1 h2 => step c h1 (fun c' h3 h4 => absurd h4 (by omega))
    | succ t ih => exact fun c h1 h2 => step c h1 (fun c' h3 h4 => ih c' h4 (by omega))
  exact fun c hc => key _ c hc (Nat.le_refl _)
theorem mo_descends_l {t0 t : Int} (ht : iB t) (h24 : s.1 24 ≤ 120) (hsup : ∀ c, 0 ≤ c → c < s.1 24 → -1 ≤ s.2.1 28 c ∧ s.2.1 28 c < c) : ∀ c : Int, -1 ≤ c → c < s.1 24 → (mo_dsc (s.2.1 28) c t → Q (.inl (some (.int (iI 1)))) s) → (¬ mo_dsc (s.2.1 28) c t → Q (.inl (some (.int (iI 0)))) s) → mw G b ad mM_descends d Q 2 [some (.ref b), some (.int (iI t0)), some (.int (iI t)), some (.int (iI c))] [] s kc ks := by
  refine il_dn (fun c hc0 ih hc h1 h0 => ?_)
  refine mw_iload_n dM_descends_2 rfl ?_
  refine mw_if_lt (tgt := 21) dM_descends_3 (by decide) (by first | omega | (simp only [mo_uz_1, mo_uz_2, mo_uf_1, mo_uf_2, mo_uf_22, mo_ug_1, mo_ug_2, mo_ug_22, mo_len, Nat.reduceEqDiff, false_and, true_and, and_true, and_false, if_false, if_true, reduceIte, ite_true, ite_false, ne_eq, not_true_eq_false, not_false_eq_true] at *; omega)) (fun hb3 => ?_) (fun hb3 => ?_)
  · refine mw_iload_n dM_descends_21 rfl ?_
    refine mw_if_lt (tgt := 29) dM_descends_22 (by decide) (by first | omega | (simp only [mo_uz_1, mo_uz_2, mo_uf_1, mo_uf_2, mo_uf_22, mo_ug_1, mo_ug_2, mo_ug_22, mo_len, Nat.reduceEqDiff, false_and, true_and, and_true, and_false, if_false, if_true, reduceIte, ite_true, ite_false, ne_eq, not_true_eq_false, not_false_eq_true] at *; omega)) (fun hb22 => ?_) (fun hb22 => ?_)
    · refine mw_iconst dM_descends_29 ?_
      refine mw_zret dM_descends_30 rfl (by first | omega | (simp only [mo_uz_1, mo_uz_2, mo_uf_1, mo_uf_2, mo_uf_22, mo_ug_1, mo_ug_2, mo_ug_22, mo_len, Nat.reduceEqDiff, false_and, true_and, and_true, and_false, if_false, if_true, reduceIte, ite_true, ite_false, ne_eq, not_true_eq_false, not_false_eq_true] at *; omega)) ?_
      first | exact h1 ((mo_dsc_iff _ c t).mpr ⟨by omega, Or.inl (by omega)⟩) | exact h0 (fun z => absurd ((mo_dsc_iff _ c t).mp z).1 (by omega))
    · refine mw_iconst dM_descends_25 ?_
      refine mw_goto (tgt := 30) dM_descends_26 (by decide) ?_
      refine mw_zret dM_descends_30 rfl (by first | omega | (simp only [mo_uz_1, mo_uz_2, mo_uf_1, mo_uf_2, mo_uf_22, mo_ug_1, mo_ug_2, mo_ug_22, mo_len, Nat.reduceEqDiff, false_and, true_and, and_true, and_false, if_false, if_true, reduceIte, ite_true, ite_false, ne_eq, not_true_eq_false, not_false_eq_true] at *; omega)) ?_
      first | exact h1 ((mo_dsc_iff _ c t).mpr ⟨by omega, Or.inl (by omega)⟩) | exact h0 (fun z => absurd ((mo_dsc_iff _ c t).mp z).1 (by omega))
  · refine mw_iload_n dM_descends_6 rfl ?_
    refine mw_iload_n dM_descends_7 rfl ?_
    refine mw_icmp_eq (tgt := 21) dM_descends_8 (by decide) (by first | omega | (simp only [mo_uz_1, mo_uz_2, mo_uf_1, mo_uf_2, mo_uf_22, mo_ug_1, mo_ug_2, mo_ug_22, mo_len, Nat.reduceEqDiff, false_and, true_and, and_true, and_false, if_false, if_true, reduceIte, ite_true, ite_false, ne_eq, not_true_eq_false, not_false_eq_true] at *; omega)) (by first | omega | (simp only [mo_uz_1, mo_uz_2, mo_uf_1, mo_uf_2, mo_uf_22, mo_ug_1, mo_ug_2, mo_ug_22, mo_len, Nat.reduceEqDiff, false_and, true_and, and_true, and_false, if_false, if_true, reduceIte, ite_true, ite_false, ne_eq, not_true_eq_false, not_false_eq_true] at *; omega)) (fun hb8 => ?_) (fun hb8 => ?_)
    · refine mw_iload_n dM_descends_21 rfl ?_
      refine mw_if_lt (tgt := 29) dM_descends_22 (by decide) (by first | omega | (simp only [mo_uz_1, mo_uz_2, mo_uf_1, mo_uf_2, mo_uf_22, mo_ug_1, mo_ug_2, mo_ug_22, mo_len, Nat.reduceEqDiff, false_and, true_and, and_true, and_false, if_false, if_true, reduceIte, ite_true, ite_false, ne_eq, not_true_eq_false, not_false_eq_true] at *; omega)) (fun hb22 => ?_) (fun hb22 => ?_)
      · refine mw_iconst dM_descends_29 ?_
        refine mw_zret dM_descends_30 rfl (by first | omega | (simp only [mo_uz_1, mo_uz_2, mo_uf_1, mo_uf_2, mo_uf_22, mo_ug_1, mo_ug_2, mo_ug_22, mo_len, Nat.reduceEqDiff, false_and, true_and, and_true, and_false, if_false, if_true, reduceIte, ite_true, ite_false, ne_eq, not_true_eq_false, not_false_eq_true] at *; omega)) ?_
        first | exact h1 ((mo_dsc_iff _ c t).mpr ⟨by omega, Or.inl (by omega)⟩) | exact h0 (fun z => absurd ((mo_dsc_iff _ c t).mp z).1 (by omega))
      · refine mw_iconst dM_descends_25 ?_
        refine mw_goto (tgt := 30) dM_descends_26 (by decide) ?_
        refine mw_zret dM_descends_30 rfl (by first | omega | (simp only [mo_uz_1, mo_uz_2, mo_uf_1, mo_uf_2, mo_uf_22, mo_ug_1, mo_ug_2, mo_ug_22, mo_len, Nat.reduceEqDiff, false_and, true_and, and_true, and_false, if_false, if_true, reduceIte, ite_true, ite_false, ne_eq, not_true_eq_false, not_false_eq_true] at *; omega)) ?_
        first | exact h1 ((mo_dsc_iff _ c t).mpr ⟨by omega, Or.inl (by omega)⟩) | exact h0 (fun z => absurd ((mo_dsc_iff _ c t).mp z).1 (by omega))
    · refine mw_aload_n dM_descends_11 rfl ?_
      refine mw_get dM_descends_12 fM_94 rfl ?_
      refine mw_iload_n dM_descends_15 rfl ?_
      refine mw_iald dM_descends_16 rfl rfl (by first | omega | (simp only [mo_uz_1, mo_uz_2, mo_uf_1, mo_uf_2, mo_uf_22, mo_ug_1, mo_ug_2, mo_ug_22, mo_len, Nat.reduceEqDiff, false_and, true_and, and_true, and_false, if_false, if_true, reduceIte, ite_true, ite_false, ne_eq, not_true_eq_false, not_false_eq_true] at *; omega)) (by first | omega | (simp only [mo_uz_1, mo_uz_2, mo_uf_1, mo_uf_2, mo_uf_22, mo_ug_1, mo_ug_2, mo_ug_22, mo_len, Nat.reduceEqDiff, false_and, true_and, and_true, and_false, if_false, if_true, reduceIte, ite_true, ite_false, ne_eq, not_true_eq_false, not_false_eq_true] at *; omega)) (fun hv16 => ?_)
      refine mw_istore_n dM_descends_17 (by decide) rfl ?_
      refine mw_goto (tgt := 2) dM_descends_18 (by decide) ?_
      exact ih (s.2.1 28 c) (hsup c (by omega) (by omega)).2 (hsup c (by omega) (by omega)).1 (by have := hsup c (by omega) (by omega); omega) (fun h => h1 ((mo_dsc_iff _ c t).mpr ⟨by omega, Or.inr h⟩)) (fun h => h0 (fun z => by
        rcases ((mo_dsc_iff _ c t).mp z).2 with z | z
        · omega
        · exact h z))
theorem mo_descends {c t : Int} (ht : iB t) (h24 : s.1 24 ≤ 120) (hsup : ∀ c, 0 ≤ c → c < s.1 24 → -1 ≤ s.2.1 28 c ∧ s.2.1 28 c < c) (hc : 0 ≤ c ∧ c < s.1 24) (h1 : mo_dsc (s.2.1 28) c t → Q (.inl (some (.int (iI 1)))) s) (h0 : ¬ mo_dsc (s.2.1 28) c t → Q (.inl (some (.int (iI 0)))) s) : mw G b ad mM_descends d Q 0 [some (.ref b), some (.int (iI c)), some (.int (iI t)), none] [] s kc ks := by
  refine mw_iload_n dM_descends_0 rfl ?_
  refine mw_istore_n dM_descends_1 (by decide) rfl ?_
  exact mo_descends_l ht h24 hsup c (by omega) hc.2 h1 h0
theorem mo_isa {c t : Int} (hc : iB c) (ht : iB t) (h24 : s.1 24 ≤ 120) (hsup : ∀ c, 0 ≤ c → c < s.1 24 → -1 ≤ s.2.1 28 c ∧ s.2.1 28 c < c) (hbad : ¬ ((0 ≤ c ∧ c < s.1 24) ∧ 0 ≤ t ∧ t < s.1 24) → Q (.inl (some (.int (iI 0)))) (mo_uz s 0 1)) (h1 : (0 ≤ c ∧ c < s.1 24) ∧ 0 ≤ t ∧ t < s.1 24 → mo_dsc (s.2.1 28) c t → Q (.inl (some (.int (iI 1)))) (mo_uz s 0 0)) (h0 : (0 ≤ c ∧ c < s.1 24) ∧ 0 ≤ t ∧ t < s.1 24 → ¬ mo_dsc (s.2.1 28) c t → Q (.inl (some (.int (iI 0)))) (mo_uz s 0 0)) : mw G b ad mM_isA (d + 1) Q 0 [some (.ref b), some (.int (iI c)), some (.int (iI t))] [] s kc ks := by
  refine mw_aload_n dM_isA_0 rfl ?_
  refine mw_iload_n dM_isA_1 rfl ?_
  refine mw_if_lt (tgt := 25) dM_isA_2 (by decide) (by first | omega | (simp only [mo_uz_1, mo_uz_2, mo_uf_1, mo_uf_2, mo_uf_22, mo_ug_1, mo_ug_2, mo_ug_22, mo_len, Nat.reduceEqDiff, false_and, true_and, and_true, and_false, if_false, if_true, reduceIte, ite_true, ite_false, ne_eq, not_true_eq_false, not_false_eq_true] at *; omega)) (fun hb2 => ?_) (fun hb2 => ?_)
  · refine mw_iconst dM_isA_25 ?_
    refine mw_goto (tgt := 30) dM_isA_26 (by decide) ?_
    refine mw_iconst dM_isA_30 ?_
    refine mw_callV2 dM_isA_31 cM_110 (Nat.le_of_ble_eq_true rfl) (Nat.le_of_ble_eq_true rfl) rfl ?_
    refine mo_fails1 (by decide) ?_
    refine mw_if_eq (tgt := 39) dM_isA_34 (by decide) (by first | omega | (simp only [mo_uz_1, mo_uz_2, mo_uf_1, mo_uf_2, mo_uf_22, mo_ug_1, mo_ug_2, mo_ug_22, mo_len, Nat.reduceEqDiff, false_and, true_and, and_true, and_false, if_false, if_true, reduceIte, ite_true, ite_false, ne_eq, not_true_eq_false, not_false_eq_true] at *; omega)) (fun hb34 => absurd hb34 (by decide)) (fun _ => ?_)
    refine mw_iconst dM_isA_37 ?_
    refine mw_zret dM_isA_38 rfl (by first | omega | (simp only [mo_uz_1, mo_uz_2, mo_uf_1, mo_uf_2, mo_uf_22, mo_ug_1, mo_ug_2, mo_ug_22, mo_len, Nat.reduceEqDiff, false_and, true_and, and_true, and_false, if_false, if_true, reduceIte, ite_true, ite_false, ne_eq, not_true_eq_false, not_false_eq_true] at *; omega)) ?_
    first | exact hbad (by first | omega | (simp only [mo_uz_1, mo_uz_2, mo_uf_1, mo_uf_2, mo_uf_22, mo_ug_1, mo_ug_2, mo_ug_22, mo_len, Nat.reduceEqDiff, false_and, true_and, and_true, and_false, if_false, if_true, reduceIte, ite_true, ite_false, ne_eq, not_true_eq_false, not_false_eq_true] at *; omega))
  · refine mw_iload_n dM_isA_5 rfl ?_
    refine mw_aload_n dM_isA_6 rfl ?_
    refine mw_getI dM_isA_7 fM_82 rfl (fun hv7 => ?_)
    refine mw_icmp_ge (tgt := 25) dM_isA_10 (by decide) (by first | omega | (simp only [mo_uz_1, mo_uz_2, mo_uf_1, mo_uf_2, mo_uf_22, mo_ug_1, mo_ug_2, mo_ug_22, mo_len, Nat.reduceEqDiff, false_and, true_and, and_true, and_false, if_false, if_true, reduceIte, ite_true, ite_false, ne_eq, not_true_eq_false, not_false_eq_true] at *; omega)) (by first | omega | (simp only [mo_uz_1, mo_uz_2, mo_uf_1, mo_uf_2, mo_uf_22, mo_ug_1, mo_ug_2, mo_ug_22, mo_len, Nat.reduceEqDiff, false_and, true_and, and_true, and_false, if_false, if_true, reduceIte, ite_true, ite_false, ne_eq, not_true_eq_false, not_false_eq_true] at *; omega)) (fun hb10 => ?_) (fun hb10 => ?_)
    · refine mw_iconst dM_isA_25 ?_
      refine mw_goto (tgt := 30) dM_isA_26 (by decide) ?_
      refine mw_iconst dM_isA_30 ?_
      refine mw_callV2 dM_isA_31 cM_110 (Nat.le_of_ble_eq_true rfl) (Nat.le_of_ble_eq_true rfl) rfl ?_
      refine mo_fails1 (by decide) ?_
      refine mw_if_eq (tgt := 39) dM_isA_34 (by decide) (by first | omega | (simp only [mo_uz_1, mo_uz_2, mo_uf_1, mo_uf_2, mo_uf_22, mo_ug_1, mo_ug_2, mo_ug_22, mo_len, Nat.reduceEqDiff, false_and, true_and, and_true, and_false, if_false, if_true, reduceIte, ite_true, ite_false, ne_eq, not_true_eq_false, not_false_eq_true] at *; omega)) (fun hb34 => absurd hb34 (by decide)) (fun _ => ?_)
      refine mw_iconst dM_isA_37 ?_
      refine mw_zret dM_isA_38 rfl (by first | omega | (simp only [mo_uz_1, mo_uz_2, mo_uf_1, mo_uf_2, mo_uf_22, mo_ug_1, mo_ug_2, mo_ug_22, mo_len, Nat.reduceEqDiff, false_and, true_and, and_true, and_false, if_false, if_true, reduceIte, ite_true, ite_false, ne_eq, not_true_eq_false, not_false_eq_true] at *; omega)) ?_
      first | exact hbad (by first | omega | (simp only [mo_uz_1, mo_uz_2, mo_uf_1, mo_uf_2, mo_uf_22, mo_ug_1, mo_ug_2, mo_ug_22, mo_len, Nat.reduceEqDiff, false_and, true_and, and_true, and_false, if_false, if_true, reduceIte, ite_true, ite_false, ne_eq, not_true_eq_false, not_false_eq_true] at *; omega))
    · refine mw_iload_n dM_isA_13 rfl ?_
      refine mw_if_lt (tgt := 25) dM_isA_14 (by decide) (by first | omega | (simp only [mo_uz_1, mo_uz_2, mo_uf_1, mo_uf_2, mo_uf_22, mo_ug_1, mo_ug_2, mo_ug_22, mo_len, Nat.reduceEqDiff, false_and, true_and, and_true, and_false, if_false, if_true, reduceIte, ite_true, ite_false, ne_eq, not_true_eq_false, not_false_eq_true] at *; omega)) (fun hb14 => ?_) (fun hb14 => ?_)
      · refine mw_iconst dM_isA_25 ?_
        refine mw_goto (tgt := 30) dM_isA_26 (by decide) ?_
        refine mw_iconst dM_isA_30 ?_
        refine mw_callV2 dM_isA_31 cM_110 (Nat.le_of_ble_eq_true rfl) (Nat.le_of_ble_eq_true rfl) rfl ?_
        refine mo_fails1 (by decide) ?_
        refine mw_if_eq (tgt := 39) dM_isA_34 (by decide) (by first | omega | (simp only [mo_uz_1, mo_uz_2, mo_uf_1, mo_uf_2, mo_uf_22, mo_ug_1, mo_ug_2, mo_ug_22, mo_len, Nat.reduceEqDiff, false_and, true_and, and_true, and_false, if_false, if_true, reduceIte, ite_true, ite_false, ne_eq, not_true_eq_false, not_false_eq_true] at *; omega)) (fun hb34 => absurd hb34 (by decide)) (fun _ => ?_)
        refine mw_iconst dM_isA_37 ?_
        refine mw_zret dM_isA_38 rfl (by first | omega | (simp only [mo_uz_1, mo_uz_2, mo_uf_1, mo_uf_2, mo_uf_22, mo_ug_1, mo_ug_2, mo_ug_22, mo_len, Nat.reduceEqDiff, false_and, true_and, and_true, and_false, if_false, if_true, reduceIte, ite_true, ite_false, ne_eq, not_true_eq_false, not_false_eq_true] at *; omega)) ?_
        first | exact hbad (by first | omega | (simp only [mo_uz_1, mo_uz_2, mo_uf_1, mo_uf_2, mo_uf_22, mo_ug_1, mo_ug_2, mo_ug_22, mo_len, Nat.reduceEqDiff, false_and, true_and, and_true, and_false, if_false, if_true, reduceIte, ite_true, ite_false, ne_eq, not_true_eq_false, not_false_eq_true] at *; omega))
      · refine mw_iload_n dM_isA_17 rfl ?_
        refine mw_aload_n dM_isA_18 rfl ?_
        refine mw_getI dM_isA_19 fM_82 rfl (fun hv19 => ?_)
        refine mw_icmp_lt (tgt := 29) dM_isA_22 (by decide) (by first | omega | (simp only [mo_uz_1, mo_uz_2, mo_uf_1, mo_uf_2, mo_uf_22, mo_ug_1, mo_ug_2, mo_ug_22, mo_len, Nat.reduceEqDiff, false_and, true_and, and_true, and_false, if_false, if_true, reduceIte, ite_true, ite_false, ne_eq, not_true_eq_false, not_false_eq_true] at *; omega)) (by first | omega | (simp only [mo_uz_1, mo_uz_2, mo_uf_1, mo_uf_2, mo_uf_22, mo_ug_1, mo_ug_2, mo_ug_22, mo_len, Nat.reduceEqDiff, false_and, true_and, and_true, and_false, if_false, if_true, reduceIte, ite_true, ite_false, ne_eq, not_true_eq_false, not_false_eq_true] at *; omega)) (fun hb22 => ?_) (fun hb22 => ?_)
        · refine mw_iconst dM_isA_29 ?_
          refine mw_iconst dM_isA_30 ?_
          refine mw_callV2 dM_isA_31 cM_110 (Nat.le_of_ble_eq_true rfl) (Nat.le_of_ble_eq_true rfl) rfl ?_
          refine mo_fails0 (by decide) ?_
          refine mw_if_eq (tgt := 39) dM_isA_34 (by decide) (by first | omega | (simp only [mo_uz_1, mo_uz_2, mo_uf_1, mo_uf_2, mo_uf_22, mo_ug_1, mo_ug_2, mo_ug_22, mo_len, Nat.reduceEqDiff, false_and, true_and, and_true, and_false, if_false, if_true, reduceIte, ite_true, ite_false, ne_eq, not_true_eq_false, not_false_eq_true] at *; omega)) (fun _ => ?_) (fun hb34 => absurd hb34 (by decide))
          refine mw_aload_n dM_isA_39 rfl ?_
          refine mw_iload_n dM_isA_40 rfl ?_
          refine mw_iload_n dM_isA_41 rfl ?_
          refine mw_callV2 dM_isA_42 cM_178 (Nat.le_of_ble_eq_true rfl) (Nat.le_of_ble_eq_true rfl) rfl ?_
          refine mo_descends (s := mo_uz s 0 0) (by first | omega | (simp only [mo_uz_1, mo_uz_2, mo_uf_1, mo_uf_2, mo_uf_22, mo_ug_1, mo_ug_2, mo_ug_22, mo_len, Nat.reduceEqDiff, false_and, true_and, and_true, and_false, if_false, if_true, reduceIte, ite_true, ite_false, ne_eq, not_true_eq_false, not_false_eq_true] at *; omega)) h24 hsup ⟨by omega, by show _ < s.1 24; omega⟩ (fun hd42 => ?_) (fun hd42 => ?_)
          · refine mw_zret dM_isA_45 rfl (by first | omega | (simp only [mo_uz_1, mo_uz_2, mo_uf_1, mo_uf_2, mo_uf_22, mo_ug_1, mo_ug_2, mo_ug_22, mo_len, Nat.reduceEqDiff, false_and, true_and, and_true, and_false, if_false, if_true, reduceIte, ite_true, ite_false, ne_eq, not_true_eq_false, not_false_eq_true] at *; omega)) ?_
            first | exact h1 (by first | omega | (simp only [mo_uz_1, mo_uz_2, mo_uf_1, mo_uf_2, mo_uf_22, mo_ug_1, mo_ug_2, mo_ug_22, mo_len, Nat.reduceEqDiff, false_and, true_and, and_true, and_false, if_false, if_true, reduceIte, ite_true, ite_false, ne_eq, not_true_eq_false, not_false_eq_true] at *; omega)) hd42 | exact h0 (by first | omega | (simp only [mo_uz_1, mo_uz_2, mo_uf_1, mo_uf_2, mo_uf_22, mo_ug_1, mo_ug_2, mo_ug_22, mo_len, Nat.reduceEqDiff, false_and, true_and, and_true, and_false, if_false, if_true, reduceIte, ite_true, ite_false, ne_eq, not_true_eq_false, not_false_eq_true] at *; omega)) hd42
          · refine mw_zret dM_isA_45 rfl (by first | omega | (simp only [mo_uz_1, mo_uz_2, mo_uf_1, mo_uf_2, mo_uf_22, mo_ug_1, mo_ug_2, mo_ug_22, mo_len, Nat.reduceEqDiff, false_and, true_and, and_true, and_false, if_false, if_true, reduceIte, ite_true, ite_false, ne_eq, not_true_eq_false, not_false_eq_true] at *; omega)) ?_
            first | exact h1 (by first | omega | (simp only [mo_uz_1, mo_uz_2, mo_uf_1, mo_uf_2, mo_uf_22, mo_ug_1, mo_ug_2, mo_ug_22, mo_len, Nat.reduceEqDiff, false_and, true_and, and_true, and_false, if_false, if_true, reduceIte, ite_true, ite_false, ne_eq, not_true_eq_false, not_false_eq_true] at *; omega)) hd42 | exact h0 (by first | omega | (simp only [mo_uz_1, mo_uz_2, mo_uf_1, mo_uf_2, mo_uf_22, mo_ug_1, mo_ug_2, mo_ug_22, mo_len, Nat.reduceEqDiff, false_and, true_and, and_true, and_false, if_false, if_true, reduceIte, ite_true, ite_false, ne_eq, not_true_eq_false, not_false_eq_true] at *; omega)) hd42
        · refine mw_iconst dM_isA_25 ?_
          refine mw_goto (tgt := 30) dM_isA_26 (by decide) ?_
          refine mw_iconst dM_isA_30 ?_
          refine mw_callV2 dM_isA_31 cM_110 (Nat.le_of_ble_eq_true rfl) (Nat.le_of_ble_eq_true rfl) rfl ?_
          refine mo_fails1 (by decide) ?_
          refine mw_if_eq (tgt := 39) dM_isA_34 (by decide) (by first | omega | (simp only [mo_uz_1, mo_uz_2, mo_uf_1, mo_uf_2, mo_uf_22, mo_ug_1, mo_ug_2, mo_ug_22, mo_len, Nat.reduceEqDiff, false_and, true_and, and_true, and_false, if_false, if_true, reduceIte, ite_true, ite_false, ne_eq, not_true_eq_false, not_false_eq_true] at *; omega)) (fun hb34 => absurd hb34 (by decide)) (fun _ => ?_)
          refine mw_iconst dM_isA_37 ?_
          refine mw_zret dM_isA_38 rfl (by first | omega | (simp only [mo_uz_1, mo_uz_2, mo_uf_1, mo_uf_2, mo_uf_22, mo_ug_1, mo_ug_2, mo_ug_22, mo_len, Nat.reduceEqDiff, false_and, true_and, and_true, and_false, if_false, if_true, reduceIte, ite_true, ite_false, ne_eq, not_true_eq_false, not_false_eq_true] at *; omega)) ?_
          first | exact hbad (by first | omega | (simp only [mo_uz_1, mo_uz_2, mo_uf_1, mo_uf_2, mo_uf_22, mo_ug_1, mo_ug_2, mo_ug_22, mo_len, Nat.reduceEqDiff, false_and, true_and, and_true, and_false, if_false, if_true, reduceIte, ite_true, ite_false, ne_eq, not_true_eq_false, not_false_eq_true] at *; omega))

/-- the last place below n where p holds: r is its value, or -1 -/
def mo_lm (p : Int → Prop) (v : Int → Int) (n r : Int) : Prop := (r = -1 ∧ ∀ j, 0 ≤ j → j < n → ¬ p j) ∨ ∃ k, r = v k ∧ 0 ≤ k ∧ k < n ∧ p k ∧ ∀ j, k < j → j < n → ¬ p j
theorem mo_fileOf_l {a n : Int} (ha : 0 ≤ a ∧ a ≤ 173) (hn : iB n) (hf : 0 ≤ s.2.1 1 a ∧ s.2.1 1 a ≤ 8) (hk : ∀ r, mo_lm (fun j => s.2.1 2 (24 * a + 3 * j) = n) (fun k => 24 * a + 3 * k) (s.2.1 1 a) r → Q (.inl (some (.int (iI r)))) s) : ∀ i : Int, i ≤ s.2.1 1 a → 0 ≤ i → ∀ r, mo_lm (fun j => s.2.1 2 (24 * a + 3 * j) = n) (fun k => 24 * a + 3 * k) i r → mw G b ad mM_fileOf d Q 5 [some (.ref b), some (.int (iI a)), some (.int (iI n)), some (.int (iI r)), some (.int (iI i))] [] s kc ks := by
  refine il_up (s.2.1 1 a) (fun i hi ih h0 r hr => ?_)
  refine mw_iload dM_fileOf_5 rfl ?_
  refine mw_aload_n dM_fileOf_7 rfl ?_
  refine mw_get dM_fileOf_8 fM_7 rfl ?_
  refine mw_iload_n dM_fileOf_11 rfl ?_
  refine mw_iald dM_fileOf_12 rfl rfl (by first | omega | (simp only [mo_uz_1, mo_uz_2, mo_uf_1, mo_uf_2, mo_uf_22, mo_ug_1, mo_ug_2, mo_ug_22, mo_len, Nat.reduceEqDiff, false_and, true_and, and_true, and_false, if_false, if_true, reduceIte, ite_true, ite_false, ne_eq, not_true_eq_false, not_false_eq_true] at *; omega)) (by first | omega | (simp only [mo_uz_1, mo_uz_2, mo_uf_1, mo_uf_2, mo_uf_22, mo_ug_1, mo_ug_2, mo_ug_22, mo_len, Nat.reduceEqDiff, false_and, true_and, and_true, and_false, if_false, if_true, reduceIte, ite_true, ite_false, ne_eq, not_true_eq_false, not_false_eq_true] at *; omega)) (fun hv12 => ?_)
  refine mw_icmp_ge (tgt := 54) dM_fileOf_13 (by decide) (by first | omega | (simp only [mo_uz_1, mo_uz_2, mo_uf_1, mo_uf_2, mo_uf_22, mo_ug_1, mo_ug_2, mo_ug_22, mo_len, Nat.reduceEqDiff, false_and, true_and, and_true, and_false, if_false, if_true, reduceIte, ite_true, ite_false, ne_eq, not_true_eq_false, not_false_eq_true] at *; omega)) (by first | omega | (simp only [mo_uz_1, mo_uz_2, mo_uf_1, mo_uf_2, mo_uf_22, mo_ug_1, mo_ug_2, mo_ug_22, mo_len, Nat.reduceEqDiff, false_and, true_and, and_true, and_false, if_false, if_true, reduceIte, ite_true, ite_false, ne_eq, not_true_eq_false, not_false_eq_true] at *; omega)) (fun hb13 => ?_) (fun hb13 => ?_)
  · refine mw_iload_n dM_fileOf_54 rfl ?_
    refine mw_iret dM_fileOf_55 rfl ?_
    have e9 : i = s.2.1 1 a := by omega
    rw [e9] at hr
    exact hk r hr
  · refine mw_aload_n dM_fileOf_16 rfl ?_
    refine mw_get dM_fileOf_17 fM_13 rfl ?_
    refine mw_bipush dM_fileOf_20 (by decide +kernel) ?_
    refine mw_iload_n dM_fileOf_22 rfl ?_
    refine mw_imul dM_fileOf_23 ?_
    refine mw_iconst dM_fileOf_24 ?_
    refine mw_iload dM_fileOf_25 rfl ?_
    refine mw_imul dM_fileOf_27 ?_
    refine mw_iadd dM_fileOf_28 ?_
    refine mw_iald dM_fileOf_29 rfl rfl (by first | omega | (simp only [mo_uz_1, mo_uz_2, mo_uf_1, mo_uf_2, mo_uf_22, mo_ug_1, mo_ug_2, mo_ug_22, mo_len, Nat.reduceEqDiff, false_and, true_and, and_true, and_false, if_false, if_true, reduceIte, ite_true, ite_false, ne_eq, not_true_eq_false, not_false_eq_true] at *; omega)) (by first | omega | (simp only [mo_uz_1, mo_uz_2, mo_uf_1, mo_uf_2, mo_uf_22, mo_ug_1, mo_ug_2, mo_ug_22, mo_len, Nat.reduceEqDiff, false_and, true_and, and_true, and_false, if_false, if_true, reduceIte, ite_true, ite_false, ne_eq, not_true_eq_false, not_false_eq_true] at *; omega)) (fun hv29 => ?_)
    refine mw_iload_n dM_fileOf_30 rfl ?_
    refine mw_icmp_ne (tgt := 46) dM_fileOf_31 (by decide) (by first | omega | (simp only [mo_uz_1, mo_uz_2, mo_uf_1, mo_uf_2, mo_uf_22, mo_ug_1, mo_ug_2, mo_ug_22, mo_len, Nat.reduceEqDiff, false_and, true_and, and_true, and_false, if_false, if_true, reduceIte, ite_true, ite_false, ne_eq, not_true_eq_false, not_false_eq_true] at *; omega)) (by first | omega | (simp only [mo_uz_1, mo_uz_2, mo_uf_1, mo_uf_2, mo_uf_22, mo_ug_1, mo_ug_2, mo_ug_22, mo_len, Nat.reduceEqDiff, false_and, true_and, and_true, and_false, if_false, if_true, reduceIte, ite_true, ite_false, ne_eq, not_true_eq_false, not_false_eq_true] at *; omega)) (fun hb31 => ?_) (fun hb31 => ?_)
    · refine mw_iload_n dM_fileOf_46 rfl ?_
      refine mw_istore_n dM_fileOf_47 (by decide) rfl ?_
      refine mw_iinc dM_fileOf_48 rfl (by decide) rfl ?_
      refine mw_goto (tgt := 5) dM_fileOf_51 (by decide) ?_
      refine ih (by omega) (by omega) _ ?_
      first
        | exact Or.inr ⟨i, rfl, by omega, by omega, by omega, fun j h1 h2 => absurd h1 (by omega)⟩
        | (rcases hr with ⟨h1, h2⟩ | ⟨k, h1, h2, h3, h4, h5⟩
           · exact Or.inl ⟨h1, fun j h3 h4 => by
               by_cases e : j = i
               · rw [e]; omega
               · exact h2 j h3 (by omega)⟩
           · exact Or.inr ⟨k, h1, h2, by omega, h4, fun j h6 h7 => by
               by_cases e : j = i
               · rw [e]; omega
               · exact h5 j h6 (by omega)⟩)
    · refine mw_bipush dM_fileOf_34 (by decide +kernel) ?_
      refine mw_iload_n dM_fileOf_36 rfl ?_
      refine mw_imul dM_fileOf_37 ?_
      refine mw_iconst dM_fileOf_38 ?_
      refine mw_iload dM_fileOf_39 rfl ?_
      refine mw_imul dM_fileOf_41 ?_
      refine mw_iadd dM_fileOf_42 ?_
      refine mw_goto (tgt := 47) dM_fileOf_43 (by decide) ?_
      refine mw_istore_n dM_fileOf_47 (by decide) rfl ?_
      refine mw_iinc dM_fileOf_48 rfl (by decide) rfl ?_
      refine mw_goto (tgt := 5) dM_fileOf_51 (by decide) ?_
      refine ih (by omega) (by omega) _ ?_
      first
        | exact Or.inr ⟨i, rfl, by omega, by omega, by omega, fun j h1 h2 => absurd h1 (by omega)⟩
        | (rcases hr with ⟨h1, h2⟩ | ⟨k, h1, h2, h3, h4, h5⟩
           · exact Or.inl ⟨h1, fun j h3 h4 => by
               by_cases e : j = i
               · rw [e]; omega
               · exact h2 j h3 (by omega)⟩
           · exact Or.inr ⟨k, h1, h2, by omega, h4, fun j h6 h7 => by
               by_cases e : j = i
               · rw [e]; omega
               · exact h5 j h6 (by omega)⟩)
theorem mo_fileOf {a n : Int} (ha : 0 ≤ a ∧ a ≤ 173) (hn : iB n) (hf : 0 ≤ s.2.1 1 a ∧ s.2.1 1 a ≤ 8) (hk : ∀ r, mo_lm (fun j => s.2.1 2 (24 * a + 3 * j) = n) (fun k => 24 * a + 3 * k) (s.2.1 1 a) r → Q (.inl (some (.int (iI r)))) s) : mw G b ad mM_fileOf d Q 0 [some (.ref b), some (.int (iI a)), some (.int (iI n)), none, none] [] s kc ks := by
  refine mw_iconst dM_fileOf_0 ?_
  refine mw_istore_n dM_fileOf_1 (by decide) rfl ?_
  refine mw_iconst dM_fileOf_2 ?_
  refine mw_istore dM_fileOf_3 (by decide) rfl ?_
  exact mo_fileOf_l ha hn hf hk 0 hf.1 (by decide) (-1) (Or.inl ⟨rfl, fun j h1 h2 => absurd h2 (by omega)⟩)
theorem mo_described_l {a n : Int} (ha : 0 ≤ a ∧ a ≤ 173) (hn : iB n) (hf : 0 ≤ s.2.1 3 a ∧ s.2.1 3 a ≤ 4) (hk : ∀ r, mo_lm (fun j => s.2.1 4 (8 * a + 2 * j) = n) (fun k => s.2.1 4 (8 * a + 2 * k + 1)) (s.2.1 3 a) r → Q (.inl (some (.int (iI r)))) s) : ∀ i : Int, i ≤ s.2.1 3 a → 0 ≤ i → ∀ r, mo_lm (fun j => s.2.1 4 (8 * a + 2 * j) = n) (fun k => s.2.1 4 (8 * a + 2 * k + 1)) i r → mw G b ad mM_described d Q 5 [some (.ref b), some (.int (iI a)), some (.int (iI n)), some (.int (iI r)), some (.int (iI i))] [] s kc ks := by
  refine il_up (s.2.1 3 a) (fun i hi ih h0 r hr => ?_)
  refine mw_iload dM_described_5 rfl ?_
  refine mw_aload_n dM_described_7 rfl ?_
  refine mw_get dM_described_8 fM_16 rfl ?_
  refine mw_iload_n dM_described_11 rfl ?_
  refine mw_iald dM_described_12 rfl rfl (by first | omega | (simp only [mo_uz_1, mo_uz_2, mo_uf_1, mo_uf_2, mo_uf_22, mo_ug_1, mo_ug_2, mo_ug_22, mo_len, Nat.reduceEqDiff, false_and, true_and, and_true, and_false, if_false, if_true, reduceIte, ite_true, ite_false, ne_eq, not_true_eq_false, not_false_eq_true] at *; omega)) (by first | omega | (simp only [mo_uz_1, mo_uz_2, mo_uf_1, mo_uf_2, mo_uf_22, mo_ug_1, mo_ug_2, mo_ug_22, mo_len, Nat.reduceEqDiff, false_and, true_and, and_true, and_false, if_false, if_true, reduceIte, ite_true, ite_false, ne_eq, not_true_eq_false, not_false_eq_true] at *; omega)) (fun hv12 => ?_)
  refine mw_icmp_ge (tgt := 61) dM_described_13 (by decide) (by first | omega | (simp only [mo_uz_1, mo_uz_2, mo_uf_1, mo_uf_2, mo_uf_22, mo_ug_1, mo_ug_2, mo_ug_22, mo_len, Nat.reduceEqDiff, false_and, true_and, and_true, and_false, if_false, if_true, reduceIte, ite_true, ite_false, ne_eq, not_true_eq_false, not_false_eq_true] at *; omega)) (by first | omega | (simp only [mo_uz_1, mo_uz_2, mo_uf_1, mo_uf_2, mo_uf_22, mo_ug_1, mo_ug_2, mo_ug_22, mo_len, Nat.reduceEqDiff, false_and, true_and, and_true, and_false, if_false, if_true, reduceIte, ite_true, ite_false, ne_eq, not_true_eq_false, not_false_eq_true] at *; omega)) (fun hb13 => ?_) (fun hb13 => ?_)
  · refine mw_iload_n dM_described_61 rfl ?_
    refine mw_iret dM_described_62 rfl ?_
    have e9 : i = s.2.1 3 a := by omega
    rw [e9] at hr
    exact hk r hr
  · refine mw_aload_n dM_described_16 rfl ?_
    refine mw_get dM_described_17 fM_19 rfl ?_
    refine mw_bipush dM_described_20 (by decide +kernel) ?_
    refine mw_iload_n dM_described_22 rfl ?_
    refine mw_imul dM_described_23 ?_
    refine mw_iconst dM_described_24 ?_
    refine mw_iload dM_described_25 rfl ?_
    refine mw_imul dM_described_27 ?_
    refine mw_iadd dM_described_28 ?_
    refine mw_iald dM_described_29 rfl rfl (by first | omega | (simp only [mo_uz_1, mo_uz_2, mo_uf_1, mo_uf_2, mo_uf_22, mo_ug_1, mo_ug_2, mo_ug_22, mo_len, Nat.reduceEqDiff, false_and, true_and, and_true, and_false, if_false, if_true, reduceIte, ite_true, ite_false, ne_eq, not_true_eq_false, not_false_eq_true] at *; omega)) (by first | omega | (simp only [mo_uz_1, mo_uz_2, mo_uf_1, mo_uf_2, mo_uf_22, mo_ug_1, mo_ug_2, mo_ug_22, mo_len, Nat.reduceEqDiff, false_and, true_and, and_true, and_false, if_false, if_true, reduceIte, ite_true, ite_false, ne_eq, not_true_eq_false, not_false_eq_true] at *; omega)) (fun hv29 => ?_)
    refine mw_iload_n dM_described_30 rfl ?_
    refine mw_icmp_ne (tgt := 53) dM_described_31 (by decide) (by first | omega | (simp only [mo_uz_1, mo_uz_2, mo_uf_1, mo_uf_2, mo_uf_22, mo_ug_1, mo_ug_2, mo_ug_22, mo_len, Nat.reduceEqDiff, false_and, true_and, and_true, and_false, if_false, if_true, reduceIte, ite_true, ite_false, ne_eq, not_true_eq_false, not_false_eq_true] at *; omega)) (by first | omega | (simp only [mo_uz_1, mo_uz_2, mo_uf_1, mo_uf_2, mo_uf_22, mo_ug_1, mo_ug_2, mo_ug_22, mo_len, Nat.reduceEqDiff, false_and, true_and, and_true, and_false, if_false, if_true, reduceIte, ite_true, ite_false, ne_eq, not_true_eq_false, not_false_eq_true] at *; omega)) (fun hb31 => ?_) (fun hb31 => ?_)
    · refine mw_iload_n dM_described_53 rfl ?_
      refine mw_istore_n dM_described_54 (by decide) rfl ?_
      refine mw_iinc dM_described_55 rfl (by decide) rfl ?_
      refine mw_goto (tgt := 5) dM_described_58 (by decide) ?_
      refine ih (by omega) (by omega) _ ?_
      first
        | exact Or.inr ⟨i, rfl, by omega, by omega, by omega, fun j h1 h2 => absurd h1 (by omega)⟩
        | (rcases hr with ⟨h1, h2⟩ | ⟨k, h1, h2, h3, h4, h5⟩
           · exact Or.inl ⟨h1, fun j h3 h4 => by
               by_cases e : j = i
               · rw [e]; omega
               · exact h2 j h3 (by omega)⟩
           · exact Or.inr ⟨k, h1, h2, by omega, h4, fun j h6 h7 => by
               by_cases e : j = i
               · rw [e]; omega
               · exact h5 j h6 (by omega)⟩)
    · refine mw_aload_n dM_described_34 rfl ?_
      refine mw_get dM_described_35 fM_19 rfl ?_
      refine mw_bipush dM_described_38 (by decide +kernel) ?_
      refine mw_iload_n dM_described_40 rfl ?_
      refine mw_imul dM_described_41 ?_
      refine mw_iconst dM_described_42 ?_
      refine mw_iload dM_described_43 rfl ?_
      refine mw_imul dM_described_45 ?_
      refine mw_iadd dM_described_46 ?_
      refine mw_iconst dM_described_47 ?_
      refine mw_iadd dM_described_48 ?_
      refine mw_iald dM_described_49 rfl rfl (by first | omega | (simp only [mo_uz_1, mo_uz_2, mo_uf_1, mo_uf_2, mo_uf_22, mo_ug_1, mo_ug_2, mo_ug_22, mo_len, Nat.reduceEqDiff, false_and, true_and, and_true, and_false, if_false, if_true, reduceIte, ite_true, ite_false, ne_eq, not_true_eq_false, not_false_eq_true] at *; omega)) (by first | omega | (simp only [mo_uz_1, mo_uz_2, mo_uf_1, mo_uf_2, mo_uf_22, mo_ug_1, mo_ug_2, mo_ug_22, mo_len, Nat.reduceEqDiff, false_and, true_and, and_true, and_false, if_false, if_true, reduceIte, ite_true, ite_false, ne_eq, not_true_eq_false, not_false_eq_true] at *; omega)) (fun hv49 => ?_)
      refine mw_goto (tgt := 54) dM_described_50 (by decide) ?_
      refine mw_istore_n dM_described_54 (by decide) rfl ?_
      refine mw_iinc dM_described_55 rfl (by decide) rfl ?_
      refine mw_goto (tgt := 5) dM_described_58 (by decide) ?_
      refine ih (by omega) (by omega) _ ?_
      first
        | exact Or.inr ⟨i, rfl, by omega, by omega, by omega, fun j h1 h2 => absurd h1 (by omega)⟩
        | (rcases hr with ⟨h1, h2⟩ | ⟨k, h1, h2, h3, h4, h5⟩
           · exact Or.inl ⟨h1, fun j h3 h4 => by
               by_cases e : j = i
               · rw [e]; omega
               · exact h2 j h3 (by omega)⟩
           · exact Or.inr ⟨k, h1, h2, by omega, h4, fun j h6 h7 => by
               by_cases e : j = i
               · rw [e]; omega
               · exact h5 j h6 (by omega)⟩)
theorem mo_described {a n : Int} (ha : 0 ≤ a ∧ a ≤ 173) (hn : iB n) (hf : 0 ≤ s.2.1 3 a ∧ s.2.1 3 a ≤ 4) (hk : ∀ r, mo_lm (fun j => s.2.1 4 (8 * a + 2 * j) = n) (fun k => s.2.1 4 (8 * a + 2 * k + 1)) (s.2.1 3 a) r → Q (.inl (some (.int (iI r)))) s) : mw G b ad mM_described d Q 0 [some (.ref b), some (.int (iI a)), some (.int (iI n)), none, none] [] s kc ks := by
  refine mw_iconst dM_described_0 ?_
  refine mw_istore_n dM_described_1 (by decide) rfl ?_
  refine mw_iconst dM_described_2 ?_
  refine mw_istore dM_described_3 (by decide) rfl ?_
  exact mo_described_l ha hn hf hk 0 hf.1 (by decide) (-1) (Or.inl ⟨rfl, fun j h1 h2 => absurd h2 (by omega)⟩)
theorem mo_definedBy_l {l n : Int} (hl : iB l) (hn : iB n) (h24 : 8 ≤ s.1 24 ∧ s.1 24 ≤ 120) (hk : ∀ r, mo_lm (fun j => 8 ≤ j ∧ s.2.1 26 j = l ∧ s.2.1 25 j = n) (fun k => k) (s.1 24) r → Q (.inl (some (.int (iI r)))) s) : ∀ i : Int, i ≤ s.1 24 → 8 ≤ i → ∀ r, mo_lm (fun j => 8 ≤ j ∧ s.2.1 26 j = l ∧ s.2.1 25 j = n) (fun k => k) i r → mw G b ad mM_definedBy d Q 6 [some (.ref b), some (.int (iI l)), some (.int (iI n)), some (.int (iI r)), some (.int (iI i))] [] s kc ks := by
  refine il_up (s.1 24) (fun i hi ih h0 r hr => ?_)
  refine mw_iload dM_definedBy_6 rfl ?_
  refine mw_aload_n dM_definedBy_8 rfl ?_
  refine mw_getI dM_definedBy_9 fM_82 rfl (fun hv9 => ?_)
  refine mw_icmp_ge (tgt := 50) dM_definedBy_12 (by decide) (by first | omega | (simp only [mo_uz_1, mo_uz_2, mo_uf_1, mo_uf_2, mo_uf_22, mo_ug_1, mo_ug_2, mo_ug_22, mo_len, Nat.reduceEqDiff, false_and, true_and, and_true, and_false, if_false, if_true, reduceIte, ite_true, ite_false, ne_eq, not_true_eq_false, not_false_eq_true] at *; omega)) (by first | omega | (simp only [mo_uz_1, mo_uz_2, mo_uf_1, mo_uf_2, mo_uf_22, mo_ug_1, mo_ug_2, mo_ug_22, mo_len, Nat.reduceEqDiff, false_and, true_and, and_true, and_false, if_false, if_true, reduceIte, ite_true, ite_false, ne_eq, not_true_eq_false, not_false_eq_true] at *; omega)) (fun hb12 => ?_) (fun hb12 => ?_)
  · refine mw_iload_n dM_definedBy_50 rfl ?_
    refine mw_iret dM_definedBy_51 rfl ?_
    have e9 : i = s.1 24 := by omega
    rw [e9] at hr
    exact hk r hr
  · refine mw_aload_n dM_definedBy_15 rfl ?_
    refine mw_get dM_definedBy_16 fM_88 rfl ?_
    refine mw_iload dM_definedBy_19 rfl ?_
    refine mw_iald dM_definedBy_21 rfl rfl (by first | omega | (simp only [mo_uz_1, mo_uz_2, mo_uf_1, mo_uf_2, mo_uf_22, mo_ug_1, mo_ug_2, mo_ug_22, mo_len, Nat.reduceEqDiff, false_and, true_and, and_true, and_false, if_false, if_true, reduceIte, ite_true, ite_false, ne_eq, not_true_eq_false, not_false_eq_true] at *; omega)) (by first | omega | (simp only [mo_uz_1, mo_uz_2, mo_uf_1, mo_uf_2, mo_uf_22, mo_ug_1, mo_ug_2, mo_ug_22, mo_len, Nat.reduceEqDiff, false_and, true_and, and_true, and_false, if_false, if_true, reduceIte, ite_true, ite_false, ne_eq, not_true_eq_false, not_false_eq_true] at *; omega)) (fun hv21 => ?_)
    refine mw_iload_n dM_definedBy_22 rfl ?_
    refine mw_icmp_ne (tgt := 42) dM_definedBy_23 (by decide) (by first | omega | (simp only [mo_uz_1, mo_uz_2, mo_uf_1, mo_uf_2, mo_uf_22, mo_ug_1, mo_ug_2, mo_ug_22, mo_len, Nat.reduceEqDiff, false_and, true_and, and_true, and_false, if_false, if_true, reduceIte, ite_true, ite_false, ne_eq, not_true_eq_false, not_false_eq_true] at *; omega)) (by first | omega | (simp only [mo_uz_1, mo_uz_2, mo_uf_1, mo_uf_2, mo_uf_22, mo_ug_1, mo_ug_2, mo_ug_22, mo_len, Nat.reduceEqDiff, false_and, true_and, and_true, and_false, if_false, if_true, reduceIte, ite_true, ite_false, ne_eq, not_true_eq_false, not_false_eq_true] at *; omega)) (fun hb23 => ?_) (fun hb23 => ?_)
    · refine mw_iload_n dM_definedBy_42 rfl ?_
      refine mw_istore_n dM_definedBy_43 (by decide) rfl ?_
      refine mw_iinc dM_definedBy_44 rfl (by decide) rfl ?_
      refine mw_goto (tgt := 6) dM_definedBy_47 (by decide) ?_
      refine ih (by omega) (by omega) _ ?_
      first
        | exact Or.inr ⟨i, rfl, by omega, by omega, by omega, fun j h1 h2 => absurd h1 (by omega)⟩
        | (rcases hr with ⟨h1, h2⟩ | ⟨k, h1, h2, h3, h4, h5⟩
           · exact Or.inl ⟨h1, fun j h3 h4 => by
               by_cases e : j = i
               · rw [e]; omega
               · exact h2 j h3 (by omega)⟩
           · exact Or.inr ⟨k, h1, h2, by omega, h4, fun j h6 h7 => by
               by_cases e : j = i
               · rw [e]; omega
               · exact h5 j h6 (by omega)⟩)
    · refine mw_aload_n dM_definedBy_26 rfl ?_
      refine mw_get dM_definedBy_27 fM_85 rfl ?_
      refine mw_iload dM_definedBy_30 rfl ?_
      refine mw_iald dM_definedBy_32 rfl rfl (by first | omega | (simp only [mo_uz_1, mo_uz_2, mo_uf_1, mo_uf_2, mo_uf_22, mo_ug_1, mo_ug_2, mo_ug_22, mo_len, Nat.reduceEqDiff, false_and, true_and, and_true, and_false, if_false, if_true, reduceIte, ite_true, ite_false, ne_eq, not_true_eq_false, not_false_eq_true] at *; omega)) (by first | omega | (simp only [mo_uz_1, mo_uz_2, mo_uf_1, mo_uf_2, mo_uf_22, mo_ug_1, mo_ug_2, mo_ug_22, mo_len, Nat.reduceEqDiff, false_and, true_and, and_true, and_false, if_false, if_true, reduceIte, ite_true, ite_false, ne_eq, not_true_eq_false, not_false_eq_true] at *; omega)) (fun hv32 => ?_)
      refine mw_iload_n dM_definedBy_33 rfl ?_
      refine mw_icmp_ne (tgt := 42) dM_definedBy_34 (by decide) (by first | omega | (simp only [mo_uz_1, mo_uz_2, mo_uf_1, mo_uf_2, mo_uf_22, mo_ug_1, mo_ug_2, mo_ug_22, mo_len, Nat.reduceEqDiff, false_and, true_and, and_true, and_false, if_false, if_true, reduceIte, ite_true, ite_false, ne_eq, not_true_eq_false, not_false_eq_true] at *; omega)) (by first | omega | (simp only [mo_uz_1, mo_uz_2, mo_uf_1, mo_uf_2, mo_uf_22, mo_ug_1, mo_ug_2, mo_ug_22, mo_len, Nat.reduceEqDiff, false_and, true_and, and_true, and_false, if_false, if_true, reduceIte, ite_true, ite_false, ne_eq, not_true_eq_false, not_false_eq_true] at *; omega)) (fun hb34 => ?_) (fun hb34 => ?_)
      · refine mw_iload_n dM_definedBy_42 rfl ?_
        refine mw_istore_n dM_definedBy_43 (by decide) rfl ?_
        refine mw_iinc dM_definedBy_44 rfl (by decide) rfl ?_
        refine mw_goto (tgt := 6) dM_definedBy_47 (by decide) ?_
        refine ih (by omega) (by omega) _ ?_
        first
          | exact Or.inr ⟨i, rfl, by omega, by omega, by omega, fun j h1 h2 => absurd h1 (by omega)⟩
          | (rcases hr with ⟨h1, h2⟩ | ⟨k, h1, h2, h3, h4, h5⟩
             · exact Or.inl ⟨h1, fun j h3 h4 => by
                 by_cases e : j = i
                 · rw [e]; omega
                 · exact h2 j h3 (by omega)⟩
             · exact Or.inr ⟨k, h1, h2, by omega, h4, fun j h6 h7 => by
                 by_cases e : j = i
                 · rw [e]; omega
                 · exact h5 j h6 (by omega)⟩)
      · refine mw_iload dM_definedBy_37 rfl ?_
        refine mw_goto (tgt := 43) dM_definedBy_39 (by decide) ?_
        refine mw_istore_n dM_definedBy_43 (by decide) rfl ?_
        refine mw_iinc dM_definedBy_44 rfl (by decide) rfl ?_
        refine mw_goto (tgt := 6) dM_definedBy_47 (by decide) ?_
        refine ih (by omega) (by omega) _ ?_
        first
          | exact Or.inr ⟨i, rfl, by omega, by omega, by omega, fun j h1 h2 => absurd h1 (by omega)⟩
          | (rcases hr with ⟨h1, h2⟩ | ⟨k, h1, h2, h3, h4, h5⟩
             · exact Or.inl ⟨h1, fun j h3 h4 => by
                 by_cases e : j = i
                 · rw [e]; omega
                 · exact h2 j h3 (by omega)⟩
             · exact Or.inr ⟨k, h1, h2, by omega, h4, fun j h6 h7 => by
                 by_cases e : j = i
                 · rw [e]; omega
                 · exact h5 j h6 (by omega)⟩)
theorem mo_definedBy {l n : Int} (hl : iB l) (hn : iB n) (h24 : 8 ≤ s.1 24 ∧ s.1 24 ≤ 120) (hk : ∀ r, mo_lm (fun j => 8 ≤ j ∧ s.2.1 26 j = l ∧ s.2.1 25 j = n) (fun k => k) (s.1 24) r → Q (.inl (some (.int (iI r)))) s) : mw G b ad mM_definedBy d Q 0 [some (.ref b), some (.int (iI l)), some (.int (iI n)), none, none] [] s kc ks := by
  refine mw_iconst dM_definedBy_0 ?_
  refine mw_istore_n dM_definedBy_1 (by decide) rfl ?_
  refine mw_bipush dM_definedBy_2 (by decide +kernel) ?_
  refine mw_istore dM_definedBy_4 (by decide) rfl ?_
  exact mo_definedBy_l hl hn h24 hk 8 h24.1 (by decide) (-1) (Or.inl ⟨rfl, fun j h1 h2 h3 => absurd h3.1 (by omega)⟩)
theorem mo_freeLoader_l (hk : ∀ l, 1 ≤ l → l ≤ 41 → (∀ j, 1 ≤ j → j < l → s.2.1 5 j ≠ 0) → (l < 41 → s.2.1 5 l = 0) → Q (.inl (some (.int (iI l)))) s) : ∀ i : Int, i ≤ 41 → 1 ≤ i → (∀ j, 1 ≤ j → j < i → s.2.1 5 j ≠ 0) → mw G b ad mM_freeLoader d Q 2 [some (.ref b), some (.int (iI i))] [] s kc ks := by
  refine il_up 41 (fun i hi ih h0 hj => ?_)
  refine mw_iload_n dM_freeLoader_2 rfl ?_
  refine mw_bipush dM_freeLoader_3 (by decide +kernel) ?_
  refine mw_icmp_ge (tgt := 23) dM_freeLoader_5 (by decide) (by first | omega | (simp only [mo_uz_1, mo_uz_2, mo_uf_1, mo_uf_2, mo_uf_22, mo_ug_1, mo_ug_2, mo_ug_22, mo_len, Nat.reduceEqDiff, false_and, true_and, and_true, and_false, if_false, if_true, reduceIte, ite_true, ite_false, ne_eq, not_true_eq_false, not_false_eq_true] at *; omega)) (by first | omega | (simp only [mo_uz_1, mo_uz_2, mo_uf_1, mo_uf_2, mo_uf_22, mo_ug_1, mo_ug_2, mo_ug_22, mo_len, Nat.reduceEqDiff, false_and, true_and, and_true, and_false, if_false, if_true, reduceIte, ite_true, ite_false, ne_eq, not_true_eq_false, not_false_eq_true] at *; omega)) (fun hb5 => ?_) (fun hb5 => ?_)
  · refine mw_iload_n dM_freeLoader_23 rfl ?_
    refine mw_iret dM_freeLoader_24 rfl ?_
    exact hk i (by omega) hi hj (fun h => by omega)
  · refine mw_aload_n dM_freeLoader_8 rfl ?_
    refine mw_get dM_freeLoader_9 fM_22 rfl ?_
    refine mw_iload_n dM_freeLoader_12 rfl ?_
    refine mw_zald dM_freeLoader_13 rfl rfl (by first | omega | (simp only [mo_uz_1, mo_uz_2, mo_uf_1, mo_uf_2, mo_uf_22, mo_ug_1, mo_ug_2, mo_ug_22, mo_len, Nat.reduceEqDiff, false_and, true_and, and_true, and_false, if_false, if_true, reduceIte, ite_true, ite_false, ne_eq, not_true_eq_false, not_false_eq_true] at *; omega)) (by first | omega | (simp only [mo_uz_1, mo_uz_2, mo_uf_1, mo_uf_2, mo_uf_22, mo_ug_1, mo_ug_2, mo_ug_22, mo_len, Nat.reduceEqDiff, false_and, true_and, and_true, and_false, if_false, if_true, reduceIte, ite_true, ite_false, ne_eq, not_true_eq_false, not_false_eq_true] at *; omega)) (fun hv13 => ?_)
    refine mw_if_eq (tgt := 23) dM_freeLoader_14 (by decide) (by first | omega | (simp only [mo_uz_1, mo_uz_2, mo_uf_1, mo_uf_2, mo_uf_22, mo_ug_1, mo_ug_2, mo_ug_22, mo_len, Nat.reduceEqDiff, false_and, true_and, and_true, and_false, if_false, if_true, reduceIte, ite_true, ite_false, ne_eq, not_true_eq_false, not_false_eq_true] at *; omega)) (fun hb14 => ?_) (fun hb14 => ?_)
    · refine mw_iload_n dM_freeLoader_23 rfl ?_
      refine mw_iret dM_freeLoader_24 rfl ?_
      exact hk i (by omega) hi hj (fun h => by omega)
    · refine mw_iinc dM_freeLoader_17 rfl (by decide) rfl ?_
      refine mw_goto (tgt := 2) dM_freeLoader_20 (by decide) ?_
      exact ih (by omega) (by omega) (fun j h1 h2 => by
        by_cases e : j = i
        · rw [e]; omega
        · exact hj j h1 (by omega))
theorem mo_freeLoader (hk : ∀ l, 1 ≤ l → l ≤ 41 → (∀ j, 1 ≤ j → j < l → s.2.1 5 j ≠ 0) → (l < 41 → s.2.1 5 l = 0) → Q (.inl (some (.int (iI l)))) s) : mw G b ad mM_freeLoader d Q 0 [some (.ref b), none] [] s kc ks := by
  refine mw_iconst dM_freeLoader_0 ?_
  refine mw_istore_n dM_freeLoader_1 (by decide) rfl ?_
  exact mo_freeLoader_l hk 1 (by decide) (by decide) (fun j h1 h2 => absurd h2 (by omega))
theorem mo_begin {k p : Int} (hk0 : iB k) (hp : iB p) (hfree : ∃ j, 1 ≤ j ∧ j ≤ 40 ∧ s.2.1 5 j = 0) (hk : ∀ l, 1 ≤ l → l ≤ 40 → (∀ j, 1 ≤ j → j < l → s.2.1 5 j ≠ 0) → s.2.1 5 l = 0 → Q (.inl (some (.int (iI l)))) (mo_uf (mo_uf (mo_uf (mo_uf s 5 l 1) 6 l k) 7 l p) 8 l 0)) : mw G b ad mM_begin (d + 1) Q 0 [some (.ref b), some (.int (iI k)), some (.int (iI p)), none] [] s kc ks := by
  refine mw_aload_n dM_begin_0 rfl ?_
  refine mw_callV0 dM_begin_1 cM_121 (Nat.le_of_ble_eq_true rfl) (Nat.le_of_ble_eq_true rfl) rfl ?_
  refine mo_freeLoader (fun l hl1 hl2 hl3 hl4 => ?_)
  have hl5 : l ≤ 40 := by
    obtain ⟨j, h1, h2, h3⟩ := hfree
    by_cases e : l ≤ 40
    · exact e
    · exact absurd h3 (hl3 j h1 (by omega))
  refine mw_istore_n dM_begin_4 (by decide) rfl ?_
  refine mw_aload_n dM_begin_5 rfl ?_
  refine mw_get dM_begin_6 fM_22 rfl ?_
  refine mw_iload_n dM_begin_9 rfl ?_
  refine mw_iconst dM_begin_10 ?_
  refine mw_zast dM_begin_11 rfl rfl (by first | omega | (simp only [mo_uz_1, mo_uz_2, mo_uf_1, mo_uf_2, mo_uf_22, mo_ug_1, mo_ug_2, mo_ug_22, mo_len, Nat.reduceEqDiff, false_and, true_and, and_true, and_false, if_false, if_true, reduceIte, ite_true, ite_false, ne_eq, not_true_eq_false, not_false_eq_true] at *; omega)) (by first | omega | (simp only [mo_uz_1, mo_uz_2, mo_uf_1, mo_uf_2, mo_uf_22, mo_ug_1, mo_ug_2, mo_ug_22, mo_len, Nat.reduceEqDiff, false_and, true_and, and_true, and_false, if_false, if_true, reduceIte, ite_true, ite_false, ne_eq, not_true_eq_false, not_false_eq_true] at *; omega)) (by first | omega | (simp only [mo_uz_1, mo_uz_2, mo_uf_1, mo_uf_2, mo_uf_22, mo_ug_1, mo_ug_2, mo_ug_22, mo_len, Nat.reduceEqDiff, false_and, true_and, and_true, and_false, if_false, if_true, reduceIte, ite_true, ite_false, ne_eq, not_true_eq_false, not_false_eq_true] at *; omega)) ?_
  refine mw_aload_n dM_begin_12 rfl ?_
  refine mw_get dM_begin_13 fM_26 rfl ?_
  refine mw_iload_n dM_begin_16 rfl ?_
  refine mw_iload_n dM_begin_17 rfl ?_
  refine mw_iast dM_begin_18 rfl rfl (by first | omega | (simp only [mo_uz_1, mo_uz_2, mo_uf_1, mo_uf_2, mo_uf_22, mo_ug_1, mo_ug_2, mo_ug_22, mo_len, Nat.reduceEqDiff, false_and, true_and, and_true, and_false, if_false, if_true, reduceIte, ite_true, ite_false, ne_eq, not_true_eq_false, not_false_eq_true] at *; omega)) (by first | omega | (simp only [mo_uz_1, mo_uz_2, mo_uf_1, mo_uf_2, mo_uf_22, mo_ug_1, mo_ug_2, mo_ug_22, mo_len, Nat.reduceEqDiff, false_and, true_and, and_true, and_false, if_false, if_true, reduceIte, ite_true, ite_false, ne_eq, not_true_eq_false, not_false_eq_true] at *; omega)) (by first | omega | (simp only [mo_uz_1, mo_uz_2, mo_uf_1, mo_uf_2, mo_uf_22, mo_ug_1, mo_ug_2, mo_ug_22, mo_len, Nat.reduceEqDiff, false_and, true_and, and_true, and_false, if_false, if_true, reduceIte, ite_true, ite_false, ne_eq, not_true_eq_false, not_false_eq_true] at *; omega)) ?_
  refine mw_aload_n dM_begin_19 rfl ?_
  refine mw_get dM_begin_20 fM_29 rfl ?_
  refine mw_iload_n dM_begin_23 rfl ?_
  refine mw_iload_n dM_begin_24 rfl ?_
  refine mw_iast dM_begin_25 rfl rfl (by first | omega | (simp only [mo_uz_1, mo_uz_2, mo_uf_1, mo_uf_2, mo_uf_22, mo_ug_1, mo_ug_2, mo_ug_22, mo_len, Nat.reduceEqDiff, false_and, true_and, and_true, and_false, if_false, if_true, reduceIte, ite_true, ite_false, ne_eq, not_true_eq_false, not_false_eq_true] at *; omega)) (by first | omega | (simp only [mo_uz_1, mo_uz_2, mo_uf_1, mo_uf_2, mo_uf_22, mo_ug_1, mo_ug_2, mo_ug_22, mo_len, Nat.reduceEqDiff, false_and, true_and, and_true, and_false, if_false, if_true, reduceIte, ite_true, ite_false, ne_eq, not_true_eq_false, not_false_eq_true] at *; omega)) (by first | omega | (simp only [mo_uz_1, mo_uz_2, mo_uf_1, mo_uf_2, mo_uf_22, mo_ug_1, mo_ug_2, mo_ug_22, mo_len, Nat.reduceEqDiff, false_and, true_and, and_true, and_false, if_false, if_true, reduceIte, ite_true, ite_false, ne_eq, not_true_eq_false, not_false_eq_true] at *; omega)) ?_
  refine mw_aload_n dM_begin_26 rfl ?_
  refine mw_get dM_begin_27 fM_32 rfl ?_
  refine mw_iload_n dM_begin_30 rfl ?_
  refine mw_iconst dM_begin_31 ?_
  refine mw_iast dM_begin_32 rfl rfl (by first | omega | (simp only [mo_uz_1, mo_uz_2, mo_uf_1, mo_uf_2, mo_uf_22, mo_ug_1, mo_ug_2, mo_ug_22, mo_len, Nat.reduceEqDiff, false_and, true_and, and_true, and_false, if_false, if_true, reduceIte, ite_true, ite_false, ne_eq, not_true_eq_false, not_false_eq_true] at *; omega)) (by first | omega | (simp only [mo_uz_1, mo_uz_2, mo_uf_1, mo_uf_2, mo_uf_22, mo_ug_1, mo_ug_2, mo_ug_22, mo_len, Nat.reduceEqDiff, false_and, true_and, and_true, and_false, if_false, if_true, reduceIte, ite_true, ite_false, ne_eq, not_true_eq_false, not_false_eq_true] at *; omega)) (by first | omega | (simp only [mo_uz_1, mo_uz_2, mo_uf_1, mo_uf_2, mo_uf_22, mo_ug_1, mo_ug_2, mo_ug_22, mo_len, Nat.reduceEqDiff, false_and, true_and, and_true, and_false, if_false, if_true, reduceIte, ite_true, ite_false, ne_eq, not_true_eq_false, not_false_eq_true] at *; omega)) ?_
  refine mw_iload_n dM_begin_33 rfl ?_
  refine mw_iret dM_begin_34 rfl ?_
  exact hk l hl1 hl5 hl3 (hl4 (by omega))

def mo_fr (f : Int → Int) : Nat → Int
  | 0 => 0
  | n + 1 => mo_fr f n + (if f ((n : Int) + 1) = 0 then 1 else 0)
theorem mo_fr_b (f : Int → Int) (n : Nat) : 0 ≤ mo_fr f n ∧ mo_fr f n ≤ n := by
  induction n with
  | zero => exact ⟨Int.le_refl _, Int.le_refl _⟩
  | succ n ih =>
    rw [mo_fr]
    split <;> constructor <;> omega
theorem mo_fr_s (f : Int → Int) {i : Int} (h : 1 ≤ i) : mo_fr f i.toNat = mo_fr f (i - 1).toNat + (if f i = 0 then 1 else 0) := by
  have e : i.toNat = (i - 1).toNat + 1 := by omega
  rw [e, mo_fr]
  have e2 : (((i - 1).toNat : Nat) : Int) + 1 = i := by omega
  rw [e2]
theorem mo_freeLoaders_l (hk : Q (.inl (some (.int (iI (mo_fr (s.2.1 5) 40))))) s) : ∀ i : Int, i ≤ 41 → 1 ≤ i → mw G b ad mM_freeLoaders d Q 4 [some (.ref b), some (.int (iI (mo_fr (s.2.1 5) (i - 1).toNat))), some (.int (iI i))] [] s kc ks := by
  refine il_up 41 (fun i hi ih h0 => ?_)
  refine mw_iload_n dM_freeLoaders_4 rfl ?_
  refine mw_bipush dM_freeLoaders_5 (by decide +kernel) ?_
  have hbm := mo_fr_b (s.2.1 5) (i - 1).toNat
  refine mw_icmp_ge (tgt := 33) dM_freeLoaders_7 (by decide) (by first | omega | (simp only [mo_uz_1, mo_uz_2, mo_uf_1, mo_uf_2, mo_uf_22, mo_ug_1, mo_ug_2, mo_ug_22, mo_len, Nat.reduceEqDiff, false_and, true_and, and_true, and_false, if_false, if_true, reduceIte, ite_true, ite_false, ne_eq, not_true_eq_false, not_false_eq_true] at *; omega)) (by first | omega | (simp only [mo_uz_1, mo_uz_2, mo_uf_1, mo_uf_2, mo_uf_22, mo_ug_1, mo_ug_2, mo_ug_22, mo_len, Nat.reduceEqDiff, false_and, true_and, and_true, and_false, if_false, if_true, reduceIte, ite_true, ite_false, ne_eq, not_true_eq_false, not_false_eq_true] at *; omega)) (fun hb7 => ?_) (fun hb7 => ?_)
  · refine mw_iload_n dM_freeLoaders_33 rfl ?_
    refine mw_iret dM_freeLoaders_34 rfl ?_
    have e9 : i = 41 := by omega
    subst e9
    exact hk
  · refine mw_aload_n dM_freeLoaders_10 rfl ?_
    refine mw_get dM_freeLoaders_11 fM_22 rfl ?_
    refine mw_iload_n dM_freeLoaders_14 rfl ?_
    refine mw_zald dM_freeLoaders_15 rfl rfl (by first | omega | (simp only [mo_uz_1, mo_uz_2, mo_uf_1, mo_uf_2, mo_uf_22, mo_ug_1, mo_ug_2, mo_ug_22, mo_len, Nat.reduceEqDiff, false_and, true_and, and_true, and_false, if_false, if_true, reduceIte, ite_true, ite_false, ne_eq, not_true_eq_false, not_false_eq_true] at *; omega)) (by first | omega | (simp only [mo_uz_1, mo_uz_2, mo_uf_1, mo_uf_2, mo_uf_22, mo_ug_1, mo_ug_2, mo_ug_22, mo_len, Nat.reduceEqDiff, false_and, true_and, and_true, and_false, if_false, if_true, reduceIte, ite_true, ite_false, ne_eq, not_true_eq_false, not_false_eq_true] at *; omega)) (fun hv15 => ?_)
    refine mw_if_eq (tgt := 23) dM_freeLoaders_16 (by decide) (by first | omega | (simp only [mo_uz_1, mo_uz_2, mo_uf_1, mo_uf_2, mo_uf_22, mo_ug_1, mo_ug_2, mo_ug_22, mo_len, Nat.reduceEqDiff, false_and, true_and, and_true, and_false, if_false, if_true, reduceIte, ite_true, ite_false, ne_eq, not_true_eq_false, not_false_eq_true] at *; omega)) (fun hb16 => ?_) (fun hb16 => ?_)
    · refine mw_iload_n dM_freeLoaders_23 rfl ?_
      refine mw_iconst dM_freeLoaders_24 ?_
      refine mw_iadd dM_freeLoaders_25 ?_
      refine mw_istore_n dM_freeLoaders_26 (by decide) rfl ?_
      refine mw_iinc dM_freeLoaders_27 rfl (by decide) rfl ?_
      refine mw_goto (tgt := 4) dM_freeLoaders_30 (by decide) ?_
      have e1 := mo_fr_s (s.2.1 5) h0
      refine mw_lo ?_ (ih (by omega) (by omega))
      rw [show (i + 1 - 1) = i by omega, e1]
      first | rw [if_pos (by omega)] | (rw [if_neg (by omega), Int.add_zero])
      rfl
    · refine mw_iload_n dM_freeLoaders_19 rfl ?_
      refine mw_goto (tgt := 26) dM_freeLoaders_20 (by decide) ?_
      refine mw_istore_n dM_freeLoaders_26 (by decide) rfl ?_
      refine mw_iinc dM_freeLoaders_27 rfl (by decide) rfl ?_
      refine mw_goto (tgt := 4) dM_freeLoaders_30 (by decide) ?_
      have e1 := mo_fr_s (s.2.1 5) h0
      refine mw_lo ?_ (ih (by omega) (by omega))
      rw [show (i + 1 - 1) = i by omega, e1]
      first | rw [if_pos (by omega)] | (rw [if_neg (by omega), Int.add_zero])
      rfl
theorem mo_freeLoaders (hk : Q (.inl (some (.int (iI (mo_fr (s.2.1 5) 40))))) s) : mw G b ad mM_freeLoaders d Q 0 [some (.ref b), none, none] [] s kc ks := by
  refine mw_iconst dM_freeLoaders_0 ?_
  refine mw_istore_n dM_freeLoaders_1 (by decide) rfl ?_
  refine mw_iconst dM_freeLoaders_2 ?_
  refine mw_istore_n dM_freeLoaders_3 (by decide) rfl ?_
  exact mo_freeLoaders_l hk 1 (by decide) (by decide)
end MO4
