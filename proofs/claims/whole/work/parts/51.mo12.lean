/-! the reference: sweep, release -/
section MO12
variable {G : aw_G} {b : Nat} {ad : Nat → Nat} {d : Nat} {Q : aw_O → mo_S → Prop} {s : mo_S} {kc ks : Nat}
/-- the classes 8 .. c - 1 of the loader l have none any more -/
def mo_rmc (s : mo_S) (l c : Int) : mo_S := (s.1, fun k q => if k = 26 ∧ (8 ≤ q ∧ q < c) ∧ s.2.1 26 q = l then -1 else s.2.1 k q, s.2.2)
theorem mo_rmc_1 (s : mo_S) (l c : Int) : (mo_rmc s l c).1 = s.1 := rfl
theorem mo_rmc_22 (s : mo_S) (l c : Int) : (mo_rmc s l c).2.2 = s.2.2 := rfl
theorem mo_rmc_o (s : mo_S) {k : Nat} (h : k ≠ 26) (l c : Int) : (mo_rmc s l c).2.1 k = s.2.1 k := by
  funext q
  exact if_neg (fun e => h e.1)
theorem mo_rmc_0 (s : mo_S) (l : Int) : mo_rmc s l 8 = s := by
  obtain ⟨z, g, h⟩ := s
  show (z, _, h) = (z, g, h)
  congr 2
  funext k q
  exact if_neg (fun e => absurd e.2.1 (by omega))
theorem mo_rmc_c (s : mo_S) (l : Int) {c : Int} : (mo_rmc s l c).2.1 26 c = s.2.1 26 c := if_neg (fun e => absurd e.2.1 (by omega))
theorem mo_rmc_y (s : mo_S) {l c : Int} (h8 : 8 ≤ c) (h : s.2.1 26 c = l) : mo_uf (mo_rmc s l c) 26 c (-1) = mo_rmc s l (c + 1) := by
  obtain ⟨z, g, hh⟩ := s
  show (z, _, hh) = (z, _, hh)
  congr 2
  funext k q
  show (if k = 26 ∧ q = c then -1 else if k = 26 ∧ (8 ≤ q ∧ q < c) ∧ g 26 q = l then -1 else g k q) = if k = 26 ∧ (8 ≤ q ∧ q < c + 1) ∧ g 26 q = l then -1 else g k q
  by_cases e1 : k = 26 ∧ q = c
  · rw [if_pos e1, if_pos ⟨e1.1, by omega, by rw [e1.2]; exact h⟩]
  · rw [if_neg e1]
    by_cases e2 : k = 26 ∧ (8 ≤ q ∧ q < c) ∧ g 26 q = l
    · rw [if_pos e2, if_pos ⟨e2.1, by omega, e2.2.2⟩]
    · rw [if_neg e2, if_neg (fun e => e2 ⟨e.1, ⟨e.2.1.1, by
        have e3 := e.2.1.2
        by_cases e4 : q = c
        · exact absurd ⟨e.1, e4⟩ e1
        · omega⟩, e.2.2⟩)]
theorem mo_rmc_n (s : mo_S) {l c : Int} (h : ¬ s.2.1 26 c = l) : mo_uf (mo_rmc s l c) 26 c (s.2.1 26 c) = mo_rmc s l (c + 1) := by
  obtain ⟨z, g, hh⟩ := s
  show (z, _, hh) = (z, _, hh)
  congr 2
  funext k q
  show (if k = 26 ∧ q = c then g 26 c else if k = 26 ∧ (8 ≤ q ∧ q < c) ∧ g 26 q = l then -1 else g k q) = if k = 26 ∧ (8 ≤ q ∧ q < c + 1) ∧ g 26 q = l then -1 else g k q
  by_cases e1 : k = 26 ∧ q = c
  · rw [if_pos e1, if_neg (fun e => h (by rw [← e1.2]; exact e.2.2)), e1.1, e1.2]
  · rw [if_neg e1]
    by_cases e2 : k = 26 ∧ (8 ≤ q ∧ q < c) ∧ g 26 q = l
    · rw [if_pos e2, if_pos ⟨e2.1, by omega, e2.2.2⟩]
    · rw [if_neg e2, if_neg (fun e => e2 ⟨e.1, ⟨e.2.1.1, by
        have e3 := e.2.1.2
        by_cases e4 : q = c
        · exact absurd ⟨e.1, e4⟩ e1
        · omega⟩, e.2.2⟩)]
theorem mo_hold_b {s : mo_S} (l : Int) (h12 : 1 ≤ s.1 12 ∧ s.1 12 ≤ 12) : 0 ≤ mo_hold s l ∧ mo_hold s l ≤ 100 := by
  have h1 := mo_hk_b s l 40
  have h2 := mo_hs_b s l (s.1 12 - 1).toNat
  unfold mo_hold
  split <;> constructor <;> omega
/-- the loader l is gone -/
def mo_rem (s : mo_S) (l : Int) : mo_S := mo_rmc (mo_uf s 5 l 0) l (s.1 24)
/-- l may go -/
def mo_rok (s : mo_S) (l : Int) : Prop := (1 ≤ l ∧ l ≤ 40) ∧ ¬ s.2.1 5 l = 0 ∧ mo_hold s l ≤ 0
def mo_rml : mo_S → List Int → mo_S
  | s, [] => s
  | s, l :: D => mo_rml (mo_rem s l) D
def mo_rv : mo_S → List Int → Prop
  | _, [] => True
  | s, l :: D => mo_rok s l ∧ mo_rv (mo_rem s l) D
/-- nobody has to go -/
def mo_nm (s : mo_S) : Prop := ∀ j, 1 ≤ j → j ≤ 40 → ¬ s.2.1 5 j = 0 → 0 < mo_hold s j
theorem mo_fr_rm (f : Int → Int) {l : Int} (h1 : 1 ≤ l) (hl : ¬ f l = 0) (n : Nat) : mo_fr (fun j => if j = l then 0 else f j) n = mo_fr f n + (if l ≤ n then 1 else 0) := by
  induction n with
  | zero =>
    show (0 : Int) = 0 + _
    rw [if_neg (by omega)]
    rfl
  | succ n ih =>
    rw [mo_fr, mo_fr, ih]
    by_cases e : (n : Int) + 1 = l
    · have e3 : l ≤ ((n + 1 : Nat) : Int) := by omega
      have e4 : ¬ l ≤ (n : Int) := by omega
      have e5 : ¬ f ((n : Int) + 1) = 0 := by rw [e]; exact hl
      rw [if_pos e, if_pos rfl, if_neg e4, if_neg e5, if_pos e3]
    · rw [if_neg e]
      by_cases e2 : l ≤ n
      · have e3 : l ≤ ((n + 1 : Nat) : Int) := by omega
        rw [if_pos e2, if_pos e3]
        omega
      · have e3 : ¬ l ≤ ((n + 1 : Nat) : Int) := by omega
        rw [if_neg e2, if_neg e3]
        omega
theorem mo_rem_5 (s : mo_S) (l : Int) : (mo_rem s l).2.1 5 = fun j => if j = l then 0 else s.2.1 5 j := by
  unfold mo_rem
  rw [mo_rmc_o _ (by decide)]
  funext j
  exact mo_uf_arr j
theorem mo_rem_fr {s : mo_S} {l : Int} (h : mo_rok s l) : mo_fr ((mo_rem s l).2.1 5) 40 = mo_fr (s.2.1 5) 40 + 1 := by
  rw [mo_rem_5, mo_fr_rm _ h.1.1 h.2.1, if_pos (show l ≤ ((40 : Nat) : Int) from h.1.2)]
theorem mo_sweep_c {g m l : Int} (hl : 1 ≤ l ∧ l ≤ 40) (h24 : 8 ≤ s.1 24 ∧ s.1 24 ≤ 120) (hk : mw G b ad mM_sweep d Q 98 [some (.ref b), some (.int (iI g)), some (.int (iI m)), some (.int (iI l)), some (.int (iI (s.1 24)))] [] (mo_rmc s l (s.1 24)) kc ks) : ∀ c : Int, c ≤ s.1 24 → 8 ≤ c → mw G b ad mM_sweep d Q 54 [some (.ref b), some (.int (iI g)), some (.int (iI m)), some (.int (iI l)), some (.int (iI c))] [] (mo_rmc s l c) kc ks := by
  refine il_up (s.1 24) (fun c hc ih h8 => ?_)
  refine mw_iload dM_sweep_54 rfl ?_
  refine mw_aload_n dM_sweep_56 rfl ?_
  refine mw_getI dM_sweep_57 fM_82 rfl (fun hv57 => ?_)
  refine mw_icmp_ge (tgt := 98) dM_sweep_60 (by decide) (by first | omega | (simp only [mo_uz_1, mo_uz_2, mo_uf_1, mo_uf_2, mo_uf_22, mo_ug_1, mo_ug_2, mo_ug_22, mo_len, Nat.reduceEqDiff, false_and, true_and, and_true, and_false, if_false, if_true, reduceIte, ite_true, ite_false, ne_eq, not_true_eq_false, not_false_eq_true, mo_rmc_1, mo_rmc_22] at *; omega)) (by first | omega | (simp only [mo_uz_1, mo_uz_2, mo_uf_1, mo_uf_2, mo_uf_22, mo_ug_1, mo_ug_2, mo_ug_22, mo_len, Nat.reduceEqDiff, false_and, true_and, and_true, and_false, if_false, if_true, reduceIte, ite_true, ite_false, ne_eq, not_true_eq_false, not_false_eq_true, mo_rmc_1, mo_rmc_22] at *; omega)) (fun hb60 => ?_) (fun hb60 => ?_)
  · have e9 : c = s.1 24 := by first | omega | (simp only [mo_rmc_1] at *; omega)
    subst e9
    exact hk
  · have hb60 : c < s.1 24 := hb60
    refine mw_aload_n dM_sweep_63 rfl ?_
    refine mw_get dM_sweep_64 fM_88 rfl ?_
    refine mw_iload dM_sweep_67 rfl ?_
    refine mw_aload_n dM_sweep_69 rfl ?_
    refine mw_get dM_sweep_70 fM_88 rfl ?_
    refine mw_iload dM_sweep_73 rfl ?_
    refine mw_iald dM_sweep_75 rfl rfl (by first | omega | (simp only [mo_uz_1, mo_uz_2, mo_uf_1, mo_uf_2, mo_uf_22, mo_ug_1, mo_ug_2, mo_ug_22, mo_len, Nat.reduceEqDiff, false_and, true_and, and_true, and_false, if_false, if_true, reduceIte, ite_true, ite_false, ne_eq, not_true_eq_false, not_false_eq_true, mo_rmc_1, mo_rmc_22] at *; omega)) (by first | omega | (simp only [mo_uz_1, mo_uz_2, mo_uf_1, mo_uf_2, mo_uf_22, mo_ug_1, mo_ug_2, mo_ug_22, mo_len, Nat.reduceEqDiff, false_and, true_and, and_true, and_false, if_false, if_true, reduceIte, ite_true, ite_false, ne_eq, not_true_eq_false, not_false_eq_true, mo_rmc_1, mo_rmc_22] at *; omega)) (fun hv75 => ?_)
    refine mw_iload_n dM_sweep_76 rfl ?_
    refine mw_icmp_ne (tgt := 84) dM_sweep_77 (by decide) (by first | omega | (simp only [mo_uz_1, mo_uz_2, mo_uf_1, mo_uf_2, mo_uf_22, mo_ug_1, mo_ug_2, mo_ug_22, mo_len, Nat.reduceEqDiff, false_and, true_and, and_true, and_false, if_false, if_true, reduceIte, ite_true, ite_false, ne_eq, not_true_eq_false, not_false_eq_true, mo_rmc_1, mo_rmc_22] at *; omega)) (by first | omega | (simp only [mo_uz_1, mo_uz_2, mo_uf_1, mo_uf_2, mo_uf_22, mo_ug_1, mo_ug_2, mo_ug_22, mo_len, Nat.reduceEqDiff, false_and, true_and, and_true, and_false, if_false, if_true, reduceIte, ite_true, ite_false, ne_eq, not_true_eq_false, not_false_eq_true, mo_rmc_1, mo_rmc_22] at *; omega)) (fun hb77 => ?_) (fun hb77 => ?_)
    · have h26 : ¬ s.2.1 26 c = l := by rw [mo_rmc_c] at hb77; exact hb77
      refine mw_aload_n dM_sweep_84 rfl ?_
      refine mw_get dM_sweep_85 fM_88 rfl ?_
      refine mw_iload dM_sweep_88 rfl ?_
      refine mw_iald dM_sweep_90 rfl rfl (by first | omega | (simp only [mo_uz_1, mo_uz_2, mo_uf_1, mo_uf_2, mo_uf_22, mo_ug_1, mo_ug_2, mo_ug_22, mo_len, Nat.reduceEqDiff, false_and, true_and, and_true, and_false, if_false, if_true, reduceIte, ite_true, ite_false, ne_eq, not_true_eq_false, not_false_eq_true, mo_rmc_1, mo_rmc_22] at *; omega)) (by first | omega | (simp only [mo_uz_1, mo_uz_2, mo_uf_1, mo_uf_2, mo_uf_22, mo_ug_1, mo_ug_2, mo_ug_22, mo_len, Nat.reduceEqDiff, false_and, true_and, and_true, and_false, if_false, if_true, reduceIte, ite_true, ite_false, ne_eq, not_true_eq_false, not_false_eq_true, mo_rmc_1, mo_rmc_22] at *; omega)) (fun hv90 => ?_)
      refine mw_iast dM_sweep_91 rfl rfl (by first | omega | (simp only [mo_uz_1, mo_uz_2, mo_uf_1, mo_uf_2, mo_uf_22, mo_ug_1, mo_ug_2, mo_ug_22, mo_len, Nat.reduceEqDiff, false_and, true_and, and_true, and_false, if_false, if_true, reduceIte, ite_true, ite_false, ne_eq, not_true_eq_false, not_false_eq_true, mo_rmc_1, mo_rmc_22] at *; omega)) (by first | omega | (simp only [mo_uz_1, mo_uz_2, mo_uf_1, mo_uf_2, mo_uf_22, mo_ug_1, mo_ug_2, mo_ug_22, mo_len, Nat.reduceEqDiff, false_and, true_and, and_true, and_false, if_false, if_true, reduceIte, ite_true, ite_false, ne_eq, not_true_eq_false, not_false_eq_true, mo_rmc_1, mo_rmc_22] at *; omega)) (by first | omega | (simp only [mo_uz_1, mo_uz_2, mo_uf_1, mo_uf_2, mo_uf_22, mo_ug_1, mo_ug_2, mo_ug_22, mo_len, Nat.reduceEqDiff, false_and, true_and, and_true, and_false, if_false, if_true, reduceIte, ite_true, ite_false, ne_eq, not_true_eq_false, not_false_eq_true, mo_rmc_1, mo_rmc_22] at *; omega)) ?_
      refine mw_iinc dM_sweep_92 rfl (by decide) rfl ?_
      refine mw_goto (tgt := 54) dM_sweep_95 (by decide) ?_
      first
        | (rw [mo_rmc_y s h8 h26]; exact ih (by omega) (by omega))
        | (rw [mo_rmc_c, mo_rmc_n s h26]; exact ih (by omega) (by omega))
    · have h26 : s.2.1 26 c = l := by rw [mo_rmc_c] at hb77; exact hb77
      refine mw_iconst dM_sweep_80 ?_
      refine mw_goto (tgt := 91) dM_sweep_81 (by decide) ?_
      refine mw_iast dM_sweep_91 rfl rfl (by first | omega | (simp only [mo_uz_1, mo_uz_2, mo_uf_1, mo_uf_2, mo_uf_22, mo_ug_1, mo_ug_2, mo_ug_22, mo_len, Nat.reduceEqDiff, false_and, true_and, and_true, and_false, if_false, if_true, reduceIte, ite_true, ite_false, ne_eq, not_true_eq_false, not_false_eq_true, mo_rmc_1, mo_rmc_22] at *; omega)) (by first | omega | (simp only [mo_uz_1, mo_uz_2, mo_uf_1, mo_uf_2, mo_uf_22, mo_ug_1, mo_ug_2, mo_ug_22, mo_len, Nat.reduceEqDiff, false_and, true_and, and_true, and_false, if_false, if_true, reduceIte, ite_true, ite_false, ne_eq, not_true_eq_false, not_false_eq_true, mo_rmc_1, mo_rmc_22] at *; omega)) (by first | omega | (simp only [mo_uz_1, mo_uz_2, mo_uf_1, mo_uf_2, mo_uf_22, mo_ug_1, mo_ug_2, mo_ug_22, mo_len, Nat.reduceEqDiff, false_and, true_and, and_true, and_false, if_false, if_true, reduceIte, ite_true, ite_false, ne_eq, not_true_eq_false, not_false_eq_true, mo_rmc_1, mo_rmc_22] at *; omega)) ?_
      refine mw_iinc dM_sweep_92 rfl (by decide) rfl ?_
      refine mw_goto (tgt := 54) dM_sweep_95 (by decide) ?_
      first
        | (rw [mo_rmc_y s h8 h26]; exact ih (by omega) (by omega))
        | (rw [mo_rmc_c, mo_rmc_n s h26]; exact ih (by omega) (by omega))
theorem mo_hold_q {s1 : mo_S} {l g : Int} (h : mo_rok s1 l) (hq : (∀ D, mo_rv s1 D → mo_nm (mo_rml s1 D) → Q (.inl (some (.int (iI (g + (D.length : Int)))))) (mo_rml s1 D))) : (∀ D, mo_rv (mo_rem s1 l) D → mo_nm (mo_rml (mo_rem s1 l) D) → Q (.inl (some (.int (iI ((g + 1) + (D.length : Int)))))) (mo_rml (mo_rem s1 l) D)) := by
  intro D h1 h2
  have := hq (l :: D) ⟨h, h1⟩ h2
  have e : g + ((l :: D).length : Int) = g + 1 + (D.length : Int) := by
    rw [List.length_cons]; omega
  rw [e] at this
  exact this
theorem mo_sweep_p {K : Int} (IH : ∀ (s1 : mo_S) (g : Int) (x3 x4 : Option Value), 40 - mo_fr (s1.2.1 5) 40 ≤ K → (1 ≤ s1.1 12 ∧ s1.1 12 ≤ 12) → (8 ≤ s1.1 24 ∧ s1.1 24 ≤ 120) → (∀ D, mo_rv s1 D → mo_nm (mo_rml s1 D) → Q (.inl (some (.int (iI (g + (D.length : Int)))))) (mo_rml s1 D)) → mw G b ad mM_sweep (d + 1) Q 4 [some (.ref b), some (.int (iI g)), some (.int (iI 1)), x3, x4] [] s1 kc ks) : ∀ l : Int, l ≤ 41 → 1 ≤ l → ∀ (s1 : mo_S) (g m : Int) (x4 : Option Value), (1 ≤ s1.1 12 ∧ s1.1 12 ≤ 12) → (8 ≤ s1.1 24 ∧ s1.1 24 ≤ 120) → (∀ D, mo_rv s1 D → mo_nm (mo_rml s1 D) → Q (.inl (some (.int (iI (g + (D.length : Int)))))) (mo_rml s1 D)) → ((m = 0 ∧ 40 - mo_fr (s1.2.1 5) 40 ≤ K + 1 ∧ ∀ j, 1 ≤ j → j < l → ¬ s1.2.1 5 j = 0 → 0 < mo_hold s1 j) ∨ (m = 1 ∧ 40 - mo_fr (s1.2.1 5) 40 ≤ K)) → mw G b ad mM_sweep (d + 1) Q 12 [some (.ref b), some (.int (iI g)), some (.int (iI m)), some (.int (iI l)), x4] [] s1 kc ks := by
  refine il_up 41 (fun l hl ih h0 s1 g m x4 h12 h24 hq hm => ?_)
  refine mw_iload_n dM_sweep_12 rfl ?_
  refine mw_bipush dM_sweep_13 (by decide +kernel) ?_
  refine mw_icmp_ge (tgt := 104) dM_sweep_15 (by decide) (by first | omega | (simp only [mo_uz_1, mo_uz_2, mo_uf_1, mo_uf_2, mo_uf_22, mo_ug_1, mo_ug_2, mo_ug_22, mo_len, Nat.reduceEqDiff, false_and, true_and, and_true, and_false, if_false, if_true, reduceIte, ite_true, ite_false, ne_eq, not_true_eq_false, not_false_eq_true, mo_rmc_1, mo_rmc_22] at *; omega)) (by first | omega | (simp only [mo_uz_1, mo_uz_2, mo_uf_1, mo_uf_2, mo_uf_22, mo_ug_1, mo_ug_2, mo_ug_22, mo_len, Nat.reduceEqDiff, false_and, true_and, and_true, and_false, if_false, if_true, reduceIte, ite_true, ite_false, ne_eq, not_true_eq_false, not_false_eq_true, mo_rmc_1, mo_rmc_22] at *; omega)) (fun hb15 => ?_) (fun hb15 => ?_)
  · have e9 : l = 41 := by omega
    refine mw_goto (tgt := 4) dM_sweep_104 (by decide) ?_
    rcases hm with ⟨g1, g2, g3⟩ | ⟨g1, g2⟩
    · subst g1
      have hq9 := hq [] True.intro (fun j q1 q2 q3 => g3 j q1 (by omega) q3)
      rw [show g + (([] : List Int).length : Int) = g from Int.add_zero g] at hq9
      refine mw_iload_n dM_sweep_4 rfl ?_
      refine mw_if_eq (tgt := 107) dM_sweep_5 (by decide) (by decide) (fun _ => ?_) (fun e => absurd e (by decide))
      refine mw_iload_n dM_sweep_107 rfl ?_
      exact mw_iret dM_sweep_108 rfl hq9
    · subst g1
      exact IH s1 g _ x4 g2 h12 h24 hq
  · refine mw_aload_n dM_sweep_18 rfl ?_
    refine mw_get dM_sweep_19 fM_22 rfl ?_
    refine mw_iload_n dM_sweep_22 rfl ?_
    refine mw_zald dM_sweep_23 rfl rfl (by first | omega | (simp only [mo_uz_1, mo_uz_2, mo_uf_1, mo_uf_2, mo_uf_22, mo_ug_1, mo_ug_2, mo_ug_22, mo_len, Nat.reduceEqDiff, false_and, true_and, and_true, and_false, if_false, if_true, reduceIte, ite_true, ite_false, ne_eq, not_true_eq_false, not_false_eq_true, mo_rmc_1, mo_rmc_22] at *; omega)) (by first | omega | (simp only [mo_uz_1, mo_uz_2, mo_uf_1, mo_uf_2, mo_uf_22, mo_ug_1, mo_ug_2, mo_ug_22, mo_len, Nat.reduceEqDiff, false_and, true_and, and_true, and_false, if_false, if_true, reduceIte, ite_true, ite_false, ne_eq, not_true_eq_false, not_false_eq_true, mo_rmc_1, mo_rmc_22] at *; omega)) (fun hv23 => ?_)
    refine mw_if_eq (tgt := 98) dM_sweep_24 (by decide) (by first | omega | (simp only [mo_uz_1, mo_uz_2, mo_uf_1, mo_uf_2, mo_uf_22, mo_ug_1, mo_ug_2, mo_ug_22, mo_len, Nat.reduceEqDiff, false_and, true_and, and_true, and_false, if_false, if_true, reduceIte, ite_true, ite_false, ne_eq, not_true_eq_false, not_false_eq_true, mo_rmc_1, mo_rmc_22] at *; omega)) (fun hb24 => ?_) (fun hb24 => ?_)
    · refine mw_iinc dM_sweep_98 rfl (by decide) rfl ?_
      refine mw_goto (tgt := 12) dM_sweep_101 (by decide) ?_
      refine ih (by omega) (by omega) _ _ _ _ h12 h24 hq ?_
      rcases hm with ⟨g1, g2, g3⟩ | ⟨g1, g2⟩
      · refine Or.inl ⟨g1, g2, fun j q1 q2 q3 => ?_⟩
        by_cases e : j = l
        · subst e; first | omega | exact absurd q3 (by omega)
        · exact g3 j q1 (by omega) q3
      · exact Or.inr ⟨g1, g2⟩
    · refine mw_aload_n dM_sweep_27 rfl ?_
      refine mw_iload_n dM_sweep_28 rfl ?_
      refine mw_callV1 dM_sweep_29 cM_136 (Nat.le_of_ble_eq_true rfl) (Nat.le_of_ble_eq_true rfl) rfl ?_
      refine mo_holders (by omega) h12 ?_
      have hhb := mo_hold_b (s := s1) l h12
      refine mw_if_le (tgt := 38) dM_sweep_32 (by decide) (by first | omega | (simp only [mo_uz_1, mo_uz_2, mo_uf_1, mo_uf_2, mo_uf_22, mo_ug_1, mo_ug_2, mo_ug_22, mo_len, Nat.reduceEqDiff, false_and, true_and, and_true, and_false, if_false, if_true, reduceIte, ite_true, ite_false, ne_eq, not_true_eq_false, not_false_eq_true, mo_rmc_1, mo_rmc_22] at *; omega)) (fun hb32 => ?_) (fun hb32 => ?_)
      · refine mw_aload_n dM_sweep_38 rfl ?_
        refine mw_get dM_sweep_39 fM_22 rfl ?_
        refine mw_iload_n dM_sweep_42 rfl ?_
        refine mw_iconst dM_sweep_43 ?_
        refine mw_zast dM_sweep_44 rfl rfl (by first | omega | (simp only [mo_uz_1, mo_uz_2, mo_uf_1, mo_uf_2, mo_uf_22, mo_ug_1, mo_ug_2, mo_ug_22, mo_len, Nat.reduceEqDiff, false_and, true_and, and_true, and_false, if_false, if_true, reduceIte, ite_true, ite_false, ne_eq, not_true_eq_false, not_false_eq_true, mo_rmc_1, mo_rmc_22] at *; omega)) (by first | omega | (simp only [mo_uz_1, mo_uz_2, mo_uf_1, mo_uf_2, mo_uf_22, mo_ug_1, mo_ug_2, mo_ug_22, mo_len, Nat.reduceEqDiff, false_and, true_and, and_true, and_false, if_false, if_true, reduceIte, ite_true, ite_false, ne_eq, not_true_eq_false, not_false_eq_true, mo_rmc_1, mo_rmc_22] at *; omega)) (by first | omega | (simp only [mo_uz_1, mo_uz_2, mo_uf_1, mo_uf_2, mo_uf_22, mo_ug_1, mo_ug_2, mo_ug_22, mo_len, Nat.reduceEqDiff, false_and, true_and, and_true, and_false, if_false, if_true, reduceIte, ite_true, ite_false, ne_eq, not_true_eq_false, not_false_eq_true, mo_rmc_1, mo_rmc_22] at *; omega)) ?_
        refine mw_iinc dM_sweep_45 rfl (by decide) rfl ?_
        refine mw_iconst dM_sweep_48 ?_
        refine mw_istore_n dM_sweep_49 (by decide) rfl ?_
        refine mw_bipush dM_sweep_50 (by decide +kernel) ?_
        refine mw_istore dM_sweep_52 (by decide) rfl ?_
        have hok : mo_rok s1 l := ⟨by omega, by omega, by omega⟩
        have hfr := mo_rem_fr hok
        refine mw_eq (mo_rmc_0 _ l).symm ?_
        refine mo_sweep_c (s := mo_uf s1 5 l 0) (by omega) h24 ?_ 8 h24.1 (by decide)
        refine mw_iinc dM_sweep_98 rfl (by decide) rfl ?_
        refine mw_goto (tgt := 12) dM_sweep_101 (by decide) ?_
        refine ih (by omega) (by omega) (mo_rem s1 l) (g + 1) 1 _ h12 h24 (mo_hold_q hok hq) (Or.inr ⟨rfl, ?_⟩)
        rw [hfr]
        rcases hm with ⟨g1, g2, g3⟩ | ⟨g1, g2⟩ <;> omega
      · refine mw_goto (tgt := 98) dM_sweep_35 (by decide) ?_
        refine mw_iinc dM_sweep_98 rfl (by decide) rfl ?_
        refine mw_goto (tgt := 12) dM_sweep_101 (by decide) ?_
        refine ih (by omega) (by omega) _ _ _ _ h12 h24 hq ?_
        rcases hm with ⟨g1, g2, g3⟩ | ⟨g1, g2⟩
        · refine Or.inl ⟨g1, g2, fun j q1 q2 q3 => ?_⟩
          by_cases e : j = l
          · subst e; first | omega | exact absurd q3 (by omega)
          · exact g3 j q1 (by omega) q3
        · exact Or.inr ⟨g1, g2⟩
theorem mo_sweep_o : ∀ (K : Nat) (s1 : mo_S) (g : Int) (x3 x4 : Option Value), 40 - mo_fr (s1.2.1 5) 40 ≤ K → (1 ≤ s1.1 12 ∧ s1.1 12 ≤ 12) → (8 ≤ s1.1 24 ∧ s1.1 24 ≤ 120) → (∀ D, mo_rv s1 D → mo_nm (mo_rml s1 D) → Q (.inl (some (.int (iI (g + (D.length : Int)))))) (mo_rml s1 D)) → mw G b ad mM_sweep (d + 1) Q 4 [some (.ref b), some (.int (iI g)), some (.int (iI 1)), x3, x4] [] s1 kc ks := by
  intro K
  induction K with
  | zero =>
    intro s1 g x3 x4 hK h12 h24 hq
    refine mw_iload_n dM_sweep_4 rfl ?_
    refine mw_if_eq (tgt := 107) dM_sweep_5 (by decide) (by first | omega | (simp only [mo_uz_1, mo_uz_2, mo_uf_1, mo_uf_2, mo_uf_22, mo_ug_1, mo_ug_2, mo_ug_22, mo_len, Nat.reduceEqDiff, false_and, true_and, and_true, and_false, if_false, if_true, reduceIte, ite_true, ite_false, ne_eq, not_true_eq_false, not_false_eq_true, mo_rmc_1, mo_rmc_22] at *; omega)) (fun hb5 => absurd hb5 (by decide)) (fun hb5 => ?_)
    refine mw_iconst dM_sweep_8 ?_
    refine mw_istore_n dM_sweep_9 (by decide) rfl ?_
    refine mw_iconst dM_sweep_10 ?_
    refine mw_istore_n dM_sweep_11 (by decide) rfl ?_
    exact mo_sweep_p (K := -1) (fun s1 g x3 x4 h1 h2 h3 h4 => absurd (mo_fr_b (s1.2.1 5) 40).2 (by omega)) 1 (by decide) (by decide) s1 g 0 x4 h12 h24 hq (Or.inl ⟨rfl, by omega, fun j q1 q2 => absurd q2 (by omega)⟩)
  | succ K ih =>
    intro s1 g x3 x4 hK h12 h24 hq
    refine mw_iload_n dM_sweep_4 rfl ?_
    refine mw_if_eq (tgt := 107) dM_sweep_5 (by decide) (by first | omega | (simp only [mo_uz_1, mo_uz_2, mo_uf_1, mo_uf_2, mo_uf_22, mo_ug_1, mo_ug_2, mo_ug_22, mo_len, Nat.reduceEqDiff, false_and, true_and, and_true, and_false, if_false, if_true, reduceIte, ite_true, ite_false, ne_eq, not_true_eq_false, not_false_eq_true, mo_rmc_1, mo_rmc_22] at *; omega)) (fun hb5 => absurd hb5 (by decide)) (fun hb5 => ?_)
    refine mw_iconst dM_sweep_8 ?_
    refine mw_istore_n dM_sweep_9 (by decide) rfl ?_
    refine mw_iconst dM_sweep_10 ?_
    refine mw_istore_n dM_sweep_11 (by decide) rfl ?_
    exact mo_sweep_p (K := K) (fun s1 g x3 x4 h1 h2 h3 h4 => ih s1 g x3 x4 (by omega) h2 h3 h4) 1 (by decide) (by decide) s1 g 0 x4 h12 h24 hq (Or.inl ⟨rfl, by omega, fun j q1 q2 => absurd q2 (by omega)⟩)
theorem mo_sweep (h12 : 1 ≤ s.1 12 ∧ s.1 12 ≤ 12) (h24 : 8 ≤ s.1 24 ∧ s.1 24 ≤ 120) (hq : (∀ D, mo_rv s D → mo_nm (mo_rml s D) → Q (.inl (some (.int (iI (D.length : Int))))) (mo_rml s D))) : mw G b ad mM_sweep (d + 1) Q 0 [some (.ref b), none, none, none, none] [] s kc ks := by
  refine mw_iconst dM_sweep_0 ?_
  refine mw_istore_n dM_sweep_1 (by decide) rfl ?_
  refine mw_iconst dM_sweep_2 ?_
  refine mw_istore_n dM_sweep_3 (by decide) rfl ?_
  refine mo_sweep_o 40 s 0 _ _ ?_ h12 h24 (fun D h1 h2 => ?_)
  · have := (mo_fr_b (s.2.1 5) 40).1
    omega
  · rw [Int.zero_add]
    exact hq D h1 h2
theorem mo_release_l {c : Int} (hc : iB c) (h12 : 1 ≤ s.1 12 ∧ s.1 12 ≤ 12) (hk : ∀ m, ((m = 1 ∧ (∃ i, 1 ≤ i ∧ i < s.1 12 ∧ s.2.1 14 i = c ∧ ¬ s.2.1 13 i = 2)) ∨ (m = 0 ∧ ¬ (∃ i, 1 ≤ i ∧ i < s.1 12 ∧ s.2.1 14 i = c ∧ ¬ s.2.1 13 i = 2))) → mw G b ad mM_release (d + 1 + 1) Q 75 [some (.ref b), some (.int (iI c)), some (.int (iI m)), some (.int (iI (s.1 12)))] [] s kc ks) : ∀ j : Int, j ≤ s.1 12 → 1 ≤ j → ∀ m, ((m = 1 ∧ (∃ i, 1 ≤ i ∧ i < j ∧ s.2.1 14 i = c ∧ ¬ s.2.1 13 i = 2)) ∨ (m = 0 ∧ ¬ (∃ i, 1 ≤ i ∧ i < j ∧ s.2.1 14 i = c ∧ ¬ s.2.1 13 i = 2))) → mw G b ad mM_release (d + 1 + 1) Q 31 [some (.ref b), some (.int (iI c)), some (.int (iI m)), some (.int (iI j))] [] s kc ks := by
  refine il_up (s.1 12) (fun j hj ih h0 m hm => ?_)
  have hmb : m = 0 ∨ m = 1 := by rcases hm with hm | hm <;> omega
  refine mw_iload_n dM_release_31 rfl ?_
  refine mw_aload_n dM_release_32 rfl ?_
  refine mw_getI dM_release_33 fM_45 rfl (fun hv33 => ?_)
  refine mw_icmp_ge (tgt := 75) dM_release_36 (by decide) (by first | omega | (simp only [mo_uz_1, mo_uz_2, mo_uf_1, mo_uf_2, mo_uf_22, mo_ug_1, mo_ug_2, mo_ug_22, mo_len, Nat.reduceEqDiff, false_and, true_and, and_true, and_false, if_false, if_true, reduceIte, ite_true, ite_false, ne_eq, not_true_eq_false, not_false_eq_true, mo_rmc_1, mo_rmc_22] at *; omega)) (by first | omega | (simp only [mo_uz_1, mo_uz_2, mo_uf_1, mo_uf_2, mo_uf_22, mo_ug_1, mo_ug_2, mo_ug_22, mo_len, Nat.reduceEqDiff, false_and, true_and, and_true, and_false, if_false, if_true, reduceIte, ite_true, ite_false, ne_eq, not_true_eq_false, not_false_eq_true, mo_rmc_1, mo_rmc_22] at *; omega)) (fun hb36 => ?_) (fun hb36 => ?_)
  · have e9 : j = s.1 12 := by omega
    subst e9
    exact hk m hm
  · refine mw_iload_n dM_release_39 rfl ?_
    refine mw_if_ne (tgt := 63) dM_release_40 (by decide) (by first | omega | (simp only [mo_uz_1, mo_uz_2, mo_uf_1, mo_uf_2, mo_uf_22, mo_ug_1, mo_ug_2, mo_ug_22, mo_len, Nat.reduceEqDiff, false_and, true_and, and_true, and_false, if_false, if_true, reduceIte, ite_true, ite_false, ne_eq, not_true_eq_false, not_false_eq_true, mo_rmc_1, mo_rmc_22] at *; omega)) (fun hb40 => ?_) (fun hb40 => ?_)
    · refine mw_iconst dM_release_63 ?_
      refine mw_goto (tgt := 68) dM_release_64 (by decide) ?_
      refine mw_istore_n dM_release_68 (by decide) rfl ?_
      refine mw_iinc dM_release_69 rfl (by decide) rfl ?_
      refine mw_goto (tgt := 31) dM_release_72 (by decide) ?_
      refine ih (by omega) (by omega) _ ?_
      first
        | exact Or.inl ⟨rfl, j, h0, by omega, by omega, by omega⟩
        | (rcases hm with ⟨g1, i, q1, q2, q3, q4⟩ | ⟨g1, g2⟩
           · first
               | exact Or.inl ⟨rfl, i, q1, by omega, q3, q4⟩
               | omega
           · first
               | exact Or.inr ⟨rfl, fun z => by
                   obtain ⟨i, q1, q2, q3, q4⟩ := z
                   by_cases e : i = j
                   · subst e; omega
                   · exact g2 ⟨i, q1, by omega, q3, q4⟩⟩
               | omega)
    · refine mw_aload_n dM_release_43 rfl ?_
      refine mw_get dM_release_44 fM_52 rfl ?_
      refine mw_iload_n dM_release_47 rfl ?_
      refine mw_iald dM_release_48 rfl rfl (by first | omega | (simp only [mo_uz_1, mo_uz_2, mo_uf_1, mo_uf_2, mo_uf_22, mo_ug_1, mo_ug_2, mo_ug_22, mo_len, Nat.reduceEqDiff, false_and, true_and, and_true, and_false, if_false, if_true, reduceIte, ite_true, ite_false, ne_eq, not_true_eq_false, not_false_eq_true, mo_rmc_1, mo_rmc_22] at *; omega)) (by first | omega | (simp only [mo_uz_1, mo_uz_2, mo_uf_1, mo_uf_2, mo_uf_22, mo_ug_1, mo_ug_2, mo_ug_22, mo_len, Nat.reduceEqDiff, false_and, true_and, and_true, and_false, if_false, if_true, reduceIte, ite_true, ite_false, ne_eq, not_true_eq_false, not_false_eq_true, mo_rmc_1, mo_rmc_22] at *; omega)) (fun hv48 => ?_)
      refine mw_iload_n dM_release_49 rfl ?_
      refine mw_icmp_ne (tgt := 67) dM_release_50 (by decide) (by first | omega | (simp only [mo_uz_1, mo_uz_2, mo_uf_1, mo_uf_2, mo_uf_22, mo_ug_1, mo_ug_2, mo_ug_22, mo_len, Nat.reduceEqDiff, false_and, true_and, and_true, and_false, if_false, if_true, reduceIte, ite_true, ite_false, ne_eq, not_true_eq_false, not_false_eq_true, mo_rmc_1, mo_rmc_22] at *; omega)) (by first | omega | (simp only [mo_uz_1, mo_uz_2, mo_uf_1, mo_uf_2, mo_uf_22, mo_ug_1, mo_ug_2, mo_ug_22, mo_len, Nat.reduceEqDiff, false_and, true_and, and_true, and_false, if_false, if_true, reduceIte, ite_true, ite_false, ne_eq, not_true_eq_false, not_false_eq_true, mo_rmc_1, mo_rmc_22] at *; omega)) (fun hb50 => ?_) (fun hb50 => ?_)
      · refine mw_iconst dM_release_67 ?_
        refine mw_istore_n dM_release_68 (by decide) rfl ?_
        refine mw_iinc dM_release_69 rfl (by decide) rfl ?_
        refine mw_goto (tgt := 31) dM_release_72 (by decide) ?_
        refine ih (by omega) (by omega) _ ?_
        first
          | exact Or.inl ⟨rfl, j, h0, by omega, by omega, by omega⟩
          | (rcases hm with ⟨g1, i, q1, q2, q3, q4⟩ | ⟨g1, g2⟩
             · first
                 | exact Or.inl ⟨rfl, i, q1, by omega, q3, q4⟩
                 | omega
             · first
                 | exact Or.inr ⟨rfl, fun z => by
                     obtain ⟨i, q1, q2, q3, q4⟩ := z
                     by_cases e : i = j
                     · subst e; omega
                     · exact g2 ⟨i, q1, by omega, q3, q4⟩⟩
                 | omega)
      · refine mw_aload_n dM_release_53 rfl ?_
        refine mw_get dM_release_54 fM_49 rfl ?_
        refine mw_iload_n dM_release_57 rfl ?_
        refine mw_iald dM_release_58 rfl rfl (by first | omega | (simp only [mo_uz_1, mo_uz_2, mo_uf_1, mo_uf_2, mo_uf_22, mo_ug_1, mo_ug_2, mo_ug_22, mo_len, Nat.reduceEqDiff, false_and, true_and, and_true, and_false, if_false, if_true, reduceIte, ite_true, ite_false, ne_eq, not_true_eq_false, not_false_eq_true, mo_rmc_1, mo_rmc_22] at *; omega)) (by first | omega | (simp only [mo_uz_1, mo_uz_2, mo_uf_1, mo_uf_2, mo_uf_22, mo_ug_1, mo_ug_2, mo_ug_22, mo_len, Nat.reduceEqDiff, false_and, true_and, and_true, and_false, if_false, if_true, reduceIte, ite_true, ite_false, ne_eq, not_true_eq_false, not_false_eq_true, mo_rmc_1, mo_rmc_22] at *; omega)) (fun hv58 => ?_)
        refine mw_iconst dM_release_59 ?_
        refine mw_icmp_eq (tgt := 67) dM_release_60 (by decide) (by first | omega | (simp only [mo_uz_1, mo_uz_2, mo_uf_1, mo_uf_2, mo_uf_22, mo_ug_1, mo_ug_2, mo_ug_22, mo_len, Nat.reduceEqDiff, false_and, true_and, and_true, and_false, if_false, if_true, reduceIte, ite_true, ite_false, ne_eq, not_true_eq_false, not_false_eq_true, mo_rmc_1, mo_rmc_22] at *; omega)) (by first | omega | (simp only [mo_uz_1, mo_uz_2, mo_uf_1, mo_uf_2, mo_uf_22, mo_ug_1, mo_ug_2, mo_ug_22, mo_len, Nat.reduceEqDiff, false_and, true_and, and_true, and_false, if_false, if_true, reduceIte, ite_true, ite_false, ne_eq, not_true_eq_false, not_false_eq_true, mo_rmc_1, mo_rmc_22] at *; omega)) (fun hb60 => ?_) (fun hb60 => ?_)
        · refine mw_iconst dM_release_67 ?_
          refine mw_istore_n dM_release_68 (by decide) rfl ?_
          refine mw_iinc dM_release_69 rfl (by decide) rfl ?_
          refine mw_goto (tgt := 31) dM_release_72 (by decide) ?_
          refine ih (by omega) (by omega) _ ?_
          first
            | exact Or.inl ⟨rfl, j, h0, by omega, by omega, by omega⟩
            | (rcases hm with ⟨g1, i, q1, q2, q3, q4⟩ | ⟨g1, g2⟩
               · first
                   | exact Or.inl ⟨rfl, i, q1, by omega, q3, q4⟩
                   | omega
               · first
                   | exact Or.inr ⟨rfl, fun z => by
                       obtain ⟨i, q1, q2, q3, q4⟩ := z
                       by_cases e : i = j
                       · subst e; omega
                       · exact g2 ⟨i, q1, by omega, q3, q4⟩⟩
                   | omega)
        · refine mw_iconst dM_release_63 ?_
          refine mw_goto (tgt := 68) dM_release_64 (by decide) ?_
          refine mw_istore_n dM_release_68 (by decide) rfl ?_
          refine mw_iinc dM_release_69 rfl (by decide) rfl ?_
          refine mw_goto (tgt := 31) dM_release_72 (by decide) ?_
          refine ih (by omega) (by omega) _ ?_
          first
            | exact Or.inl ⟨rfl, j, h0, by omega, by omega, by omega⟩
            | (rcases hm with ⟨g1, i, q1, q2, q3, q4⟩ | ⟨g1, g2⟩
               · first
                   | exact Or.inl ⟨rfl, i, q1, by omega, q3, q4⟩
                   | omega
               · first
                   | exact Or.inr ⟨rfl, fun z => by
                       obtain ⟨i, q1, q2, q3, q4⟩ := z
                       by_cases e : i = j
                       · subst e; omega
                       · exact g2 ⟨i, q1, by omega, q3, q4⟩⟩
                   | omega)
theorem mo_release {c : Int} (hc : iB c) (h12 : 1 ≤ s.1 12 ∧ s.1 12 ≤ 12) (h24 : 8 ≤ s.1 24 ∧ s.1 24 ≤ 120) (hbad : ¬ (1 ≤ c ∧ c < s.1 12) → Q (.inl (some (.int (iI 0)))) (mo_uz s 0 1)) (hst : 1 ≤ c ∧ c < s.1 12 → (s.2.1 13 c = 2 ∨ (∃ i, 1 ≤ i ∧ i < s.1 12 ∧ s.2.1 14 i = c ∧ ¬ s.2.1 13 i = 2)) → Q (.inl (some (.int (iI 0)))) (mo_uz s 0 2)) (hok : 1 ≤ c ∧ c < s.1 12 → ¬ s.2.1 13 c = 2 → ¬ (∃ i, 1 ≤ i ∧ i < s.1 12 ∧ s.2.1 14 i = c ∧ ¬ s.2.1 13 i = 2) → ∀ D, mo_rv (mo_uf (mo_uz s 0 0) 13 c 2) D → mo_nm (mo_rml (mo_uf (mo_uz s 0 0) 13 c 2) D) → Q (.inl (some (.int (iI (D.length : Int))))) (mo_rml (mo_uf (mo_uz s 0 0) 13 c 2) D)) : mw G b ad mM_release (d + 1 + 1) Q 0 [some (.ref b), some (.int (iI c)), none, none] [] s kc ks := by
  refine mw_aload_n dM_release_0 rfl ?_
  refine mw_aload_n dM_release_1 rfl ?_
  refine mw_iload_n dM_release_2 rfl ?_
  refine mw_callV1 dM_release_3 cM_140 (Nat.le_of_ble_eq_true rfl) (Nat.le_of_ble_eq_true rfl) rfl ?_
  refine mo_noScope (by first | omega | (simp only [mo_uz_1, mo_uz_2, mo_uf_1, mo_uf_2, mo_uf_22, mo_ug_1, mo_ug_2, mo_ug_22, mo_len, Nat.reduceEqDiff, false_and, true_and, and_true, and_false, if_false, if_true, reduceIte, ite_true, ite_false, ne_eq, not_true_eq_false, not_false_eq_true, mo_rmc_1, mo_rmc_22] at *; omega)) (fun hn3 => ?_) (fun hn3 => ?_)
  · refine mw_if_ne (tgt := 13) dM_release_6 (by decide) (by first | omega | (simp only [mo_uz_1, mo_uz_2, mo_uf_1, mo_uf_2, mo_uf_22, mo_ug_1, mo_ug_2, mo_ug_22, mo_len, Nat.reduceEqDiff, false_and, true_and, and_true, and_false, if_false, if_true, reduceIte, ite_true, ite_false, ne_eq, not_true_eq_false, not_false_eq_true, mo_rmc_1, mo_rmc_22] at *; omega)) (fun _ => ?_) (fun hb6 => absurd hb6 (by decide))
    refine mw_iconst dM_release_13 ?_
    refine mw_goto (tgt := 18) dM_release_14 (by decide) ?_
    refine mw_iconst dM_release_18 ?_
    refine mw_callV2 dM_release_19 cM_110 (Nat.le_of_ble_eq_true rfl) (Nat.le_of_ble_eq_true rfl) rfl ?_
    refine mo_fails1 (by decide) ?_
    refine mw_if_eq (tgt := 27) dM_release_22 (by decide) (by first | omega | (simp only [mo_uz_1, mo_uz_2, mo_uf_1, mo_uf_2, mo_uf_22, mo_ug_1, mo_ug_2, mo_ug_22, mo_len, Nat.reduceEqDiff, false_and, true_and, and_true, and_false, if_false, if_true, reduceIte, ite_true, ite_false, ne_eq, not_true_eq_false, not_false_eq_true, mo_rmc_1, mo_rmc_22] at *; omega)) (fun hb22 => absurd hb22 (by decide)) (fun _ => ?_)
    refine mw_iconst dM_release_25 ?_
    refine mw_iret dM_release_26 rfl ?_
    exact hbad (by first | omega | (simp only [mo_uz_1, mo_uz_2, mo_uf_1, mo_uf_2, mo_uf_22, mo_ug_1, mo_ug_2, mo_ug_22, mo_len, Nat.reduceEqDiff, false_and, true_and, and_true, and_false, if_false, if_true, reduceIte, ite_true, ite_false, ne_eq, not_true_eq_false, not_false_eq_true, mo_rmc_1, mo_rmc_22] at *; omega))
  · refine mw_if_ne (tgt := 13) dM_release_6 (by decide) (by first | omega | (simp only [mo_uz_1, mo_uz_2, mo_uf_1, mo_uf_2, mo_uf_22, mo_ug_1, mo_ug_2, mo_ug_22, mo_len, Nat.reduceEqDiff, false_and, true_and, and_true, and_false, if_false, if_true, reduceIte, ite_true, ite_false, ne_eq, not_true_eq_false, not_false_eq_true, mo_rmc_1, mo_rmc_22] at *; omega)) (fun hb6 => absurd hb6 (by decide)) (fun _ => ?_)
    refine mw_iload_n dM_release_9 rfl ?_
    refine mw_if_ne (tgt := 17) dM_release_10 (by decide) (by first | omega | (simp only [mo_uz_1, mo_uz_2, mo_uf_1, mo_uf_2, mo_uf_22, mo_ug_1, mo_ug_2, mo_ug_22, mo_len, Nat.reduceEqDiff, false_and, true_and, and_true, and_false, if_false, if_true, reduceIte, ite_true, ite_false, ne_eq, not_true_eq_false, not_false_eq_true, mo_rmc_1, mo_rmc_22] at *; omega)) (fun hb10 => ?_) (fun hb10 => ?_)
    · refine mw_iconst dM_release_17 ?_
      refine mw_iconst dM_release_18 ?_
      refine mw_callV2 dM_release_19 cM_110 (Nat.le_of_ble_eq_true rfl) (Nat.le_of_ble_eq_true rfl) rfl ?_
      refine mo_fails0 (by decide) ?_
      refine mw_if_eq (tgt := 27) dM_release_22 (by decide) (by first | omega | (simp only [mo_uz_1, mo_uz_2, mo_uf_1, mo_uf_2, mo_uf_22, mo_ug_1, mo_ug_2, mo_ug_22, mo_len, Nat.reduceEqDiff, false_and, true_and, and_true, and_false, if_false, if_true, reduceIte, ite_true, ite_false, ne_eq, not_true_eq_false, not_false_eq_true, mo_rmc_1, mo_rmc_22] at *; omega)) (fun _ => ?_) (fun hb22 => absurd hb22 (by decide))
      refine mw_iconst dM_release_27 ?_
      refine mw_istore_n dM_release_28 (by decide) rfl ?_
      refine mw_iconst dM_release_29 ?_
      refine mw_istore_n dM_release_30 (by decide) rfl ?_
      refine mo_release_l (s := mo_uz s 0 0) hc h12 (fun m hm => ?_) 1 h12.1 (by decide) 0 (Or.inr ⟨rfl, fun z => by obtain ⟨i, q1, q2, _⟩ := z; omega⟩)
      have hm : ((m = 1 ∧ (∃ i, 1 ≤ i ∧ i < s.1 12 ∧ s.2.1 14 i = c ∧ ¬ s.2.1 13 i = 2)) ∨ (m = 0 ∧ ¬ (∃ i, 1 ≤ i ∧ i < s.1 12 ∧ s.2.1 14 i = c ∧ ¬ s.2.1 13 i = 2))) := hm
      have hmb : m = 0 ∨ m = 1 := by rcases hm with hm | hm <;> omega
      refine mw_aload_n dM_release_75 rfl ?_
      refine mw_aload_n dM_release_76 rfl ?_
      refine mw_get dM_release_77 fM_49 rfl ?_
      refine mw_iload_n dM_release_80 rfl ?_
      refine mw_iald dM_release_81 rfl rfl (by first | omega | (simp only [mo_uz_1, mo_uz_2, mo_uf_1, mo_uf_2, mo_uf_22, mo_ug_1, mo_ug_2, mo_ug_22, mo_len, Nat.reduceEqDiff, false_and, true_and, and_true, and_false, if_false, if_true, reduceIte, ite_true, ite_false, ne_eq, not_true_eq_false, not_false_eq_true, mo_rmc_1, mo_rmc_22] at *; omega)) (by first | omega | (simp only [mo_uz_1, mo_uz_2, mo_uf_1, mo_uf_2, mo_uf_22, mo_ug_1, mo_ug_2, mo_ug_22, mo_len, Nat.reduceEqDiff, false_and, true_and, and_true, and_false, if_false, if_true, reduceIte, ite_true, ite_false, ne_eq, not_true_eq_false, not_false_eq_true, mo_rmc_1, mo_rmc_22] at *; omega)) (fun hv81 => ?_)
      refine mw_iconst dM_release_82 ?_
      refine mw_icmp_eq (tgt := 90) dM_release_83 (by decide) (by first | omega | (simp only [mo_uz_1, mo_uz_2, mo_uf_1, mo_uf_2, mo_uf_22, mo_ug_1, mo_ug_2, mo_ug_22, mo_len, Nat.reduceEqDiff, false_and, true_and, and_true, and_false, if_false, if_true, reduceIte, ite_true, ite_false, ne_eq, not_true_eq_false, not_false_eq_true, mo_rmc_1, mo_rmc_22] at *; omega)) (by first | omega | (simp only [mo_uz_1, mo_uz_2, mo_uf_1, mo_uf_2, mo_uf_22, mo_ug_1, mo_ug_2, mo_ug_22, mo_len, Nat.reduceEqDiff, false_and, true_and, and_true, and_false, if_false, if_true, reduceIte, ite_true, ite_false, ne_eq, not_true_eq_false, not_false_eq_true, mo_rmc_1, mo_rmc_22] at *; omega)) (fun hb83 => ?_) (fun hb83 => ?_)
      · refine mw_iconst dM_release_90 ?_
        refine mw_goto (tgt := 95) dM_release_91 (by decide) ?_
        refine mw_iconst dM_release_95 ?_
        refine mw_callV2 dM_release_96 cM_110 (Nat.le_of_ble_eq_true rfl) (Nat.le_of_ble_eq_true rfl) rfl ?_
        refine mo_fails1 (by decide) ?_
        refine mw_if_eq (tgt := 104) dM_release_99 (by decide) (by first | omega | (simp only [mo_uz_1, mo_uz_2, mo_uf_1, mo_uf_2, mo_uf_22, mo_ug_1, mo_ug_2, mo_ug_22, mo_len, Nat.reduceEqDiff, false_and, true_and, and_true, and_false, if_false, if_true, reduceIte, ite_true, ite_false, ne_eq, not_true_eq_false, not_false_eq_true, mo_rmc_1, mo_rmc_22] at *; omega)) (fun hb99 => absurd hb99 (by decide)) (fun _ => ?_)
        refine mw_iconst dM_release_102 ?_
        refine mw_iret dM_release_103 rfl ?_
        rw [mo_uz_uz]
        refine hst ⟨(by first | omega | (simp only [mo_uz_1, mo_uz_2, mo_uf_1, mo_uf_2, mo_uf_22, mo_ug_1, mo_ug_2, mo_ug_22, mo_len, Nat.reduceEqDiff, false_and, true_and, and_true, and_false, if_false, if_true, reduceIte, ite_true, ite_false, ne_eq, not_true_eq_false, not_false_eq_true, mo_rmc_1, mo_rmc_22] at *; omega)), (by first | omega | (simp only [mo_uz_1, mo_uz_2, mo_uf_1, mo_uf_2, mo_uf_22, mo_ug_1, mo_ug_2, mo_ug_22, mo_len, Nat.reduceEqDiff, false_and, true_and, and_true, and_false, if_false, if_true, reduceIte, ite_true, ite_false, ne_eq, not_true_eq_false, not_false_eq_true, mo_rmc_1, mo_rmc_22] at *; omega))⟩ ?_
        first
          | exact Or.inl (by first | omega | (simp only [mo_uz_1, mo_uz_2, mo_uf_1, mo_uf_2, mo_uf_22, mo_ug_1, mo_ug_2, mo_ug_22, mo_len, Nat.reduceEqDiff, false_and, true_and, and_true, and_false, if_false, if_true, reduceIte, ite_true, ite_false, ne_eq, not_true_eq_false, not_false_eq_true, mo_rmc_1, mo_rmc_22] at *; omega))
          | (rcases hm with ⟨g1, g2⟩ | ⟨g1, g2⟩
             · exact Or.inr g2
             · omega)
      · refine mw_iload_n dM_release_86 rfl ?_
        refine mw_if_eq (tgt := 94) dM_release_87 (by decide) (by first | omega | (simp only [mo_uz_1, mo_uz_2, mo_uf_1, mo_uf_2, mo_uf_22, mo_ug_1, mo_ug_2, mo_ug_22, mo_len, Nat.reduceEqDiff, false_and, true_and, and_true, and_false, if_false, if_true, reduceIte, ite_true, ite_false, ne_eq, not_true_eq_false, not_false_eq_true, mo_rmc_1, mo_rmc_22] at *; omega)) (fun hb87 => ?_) (fun hb87 => ?_)
        · refine mw_iconst dM_release_94 ?_
          refine mw_iconst dM_release_95 ?_
          refine mw_callV2 dM_release_96 cM_110 (Nat.le_of_ble_eq_true rfl) (Nat.le_of_ble_eq_true rfl) rfl ?_
          refine mo_fails0 (by decide) ?_
          refine mw_if_eq (tgt := 104) dM_release_99 (by decide) (by first | omega | (simp only [mo_uz_1, mo_uz_2, mo_uf_1, mo_uf_2, mo_uf_22, mo_ug_1, mo_ug_2, mo_ug_22, mo_len, Nat.reduceEqDiff, false_and, true_and, and_true, and_false, if_false, if_true, reduceIte, ite_true, ite_false, ne_eq, not_true_eq_false, not_false_eq_true, mo_rmc_1, mo_rmc_22] at *; omega)) (fun _ => ?_) (fun hb99 => absurd hb99 (by decide))
          refine mw_aload_n dM_release_104 rfl ?_
          refine mw_get dM_release_105 fM_49 rfl ?_
          refine mw_iload_n dM_release_108 rfl ?_
          refine mw_iconst dM_release_109 ?_
          refine mw_iast dM_release_110 rfl rfl (by first | omega | (simp only [mo_uz_1, mo_uz_2, mo_uf_1, mo_uf_2, mo_uf_22, mo_ug_1, mo_ug_2, mo_ug_22, mo_len, Nat.reduceEqDiff, false_and, true_and, and_true, and_false, if_false, if_true, reduceIte, ite_true, ite_false, ne_eq, not_true_eq_false, not_false_eq_true, mo_rmc_1, mo_rmc_22] at *; omega)) (by first | omega | (simp only [mo_uz_1, mo_uz_2, mo_uf_1, mo_uf_2, mo_uf_22, mo_ug_1, mo_ug_2, mo_ug_22, mo_len, Nat.reduceEqDiff, false_and, true_and, and_true, and_false, if_false, if_true, reduceIte, ite_true, ite_false, ne_eq, not_true_eq_false, not_false_eq_true, mo_rmc_1, mo_rmc_22] at *; omega)) (by first | omega | (simp only [mo_uz_1, mo_uz_2, mo_uf_1, mo_uf_2, mo_uf_22, mo_ug_1, mo_ug_2, mo_ug_22, mo_len, Nat.reduceEqDiff, false_and, true_and, and_true, and_false, if_false, if_true, reduceIte, ite_true, ite_false, ne_eq, not_true_eq_false, not_false_eq_true, mo_rmc_1, mo_rmc_22] at *; omega)) ?_
          refine mw_aload_n dM_release_111 rfl ?_
          refine mw_callV0 dM_release_112 cM_154 (Nat.le_of_ble_eq_true rfl) (Nat.le_of_ble_eq_true rfl) rfl ?_
          rw [mo_uz_uz]
          refine mo_sweep (s := mo_uf (mo_uz s 0 0) 13 c 2) h12 h24 (fun D h1 h2 => ?_)
          refine mw_iret dM_release_115 rfl ?_
          refine hok ⟨(by first | omega | (simp only [mo_uz_1, mo_uz_2, mo_uf_1, mo_uf_2, mo_uf_22, mo_ug_1, mo_ug_2, mo_ug_22, mo_len, Nat.reduceEqDiff, false_and, true_and, and_true, and_false, if_false, if_true, reduceIte, ite_true, ite_false, ne_eq, not_true_eq_false, not_false_eq_true, mo_rmc_1, mo_rmc_22] at *; omega)), (by first | omega | (simp only [mo_uz_1, mo_uz_2, mo_uf_1, mo_uf_2, mo_uf_22, mo_ug_1, mo_ug_2, mo_ug_22, mo_len, Nat.reduceEqDiff, false_and, true_and, and_true, and_false, if_false, if_true, reduceIte, ite_true, ite_false, ne_eq, not_true_eq_false, not_false_eq_true, mo_rmc_1, mo_rmc_22] at *; omega))⟩ (by first | omega | (simp only [mo_uz_1, mo_uz_2, mo_uf_1, mo_uf_2, mo_uf_22, mo_ug_1, mo_ug_2, mo_ug_22, mo_len, Nat.reduceEqDiff, false_and, true_and, and_true, and_false, if_false, if_true, reduceIte, ite_true, ite_false, ne_eq, not_true_eq_false, not_false_eq_true, mo_rmc_1, mo_rmc_22] at *; omega)) ?_ D h1 h2
          rcases hm with ⟨g1, g2⟩ | ⟨g1, g2⟩
          · omega
          · exact g2
        · refine mw_iconst dM_release_90 ?_
          refine mw_goto (tgt := 95) dM_release_91 (by decide) ?_
          refine mw_iconst dM_release_95 ?_
          refine mw_callV2 dM_release_96 cM_110 (Nat.le_of_ble_eq_true rfl) (Nat.le_of_ble_eq_true rfl) rfl ?_
          refine mo_fails1 (by decide) ?_
          refine mw_if_eq (tgt := 104) dM_release_99 (by decide) (by first | omega | (simp only [mo_uz_1, mo_uz_2, mo_uf_1, mo_uf_2, mo_uf_22, mo_ug_1, mo_ug_2, mo_ug_22, mo_len, Nat.reduceEqDiff, false_and, true_and, and_true, and_false, if_false, if_true, reduceIte, ite_true, ite_false, ne_eq, not_true_eq_false, not_false_eq_true, mo_rmc_1, mo_rmc_22] at *; omega)) (fun hb99 => absurd hb99 (by decide)) (fun _ => ?_)
          refine mw_iconst dM_release_102 ?_
          refine mw_iret dM_release_103 rfl ?_
          rw [mo_uz_uz]
          refine hst ⟨(by first | omega | (simp only [mo_uz_1, mo_uz_2, mo_uf_1, mo_uf_2, mo_uf_22, mo_ug_1, mo_ug_2, mo_ug_22, mo_len, Nat.reduceEqDiff, false_and, true_and, and_true, and_false, if_false, if_true, reduceIte, ite_true, ite_false, ne_eq, not_true_eq_false, not_false_eq_true, mo_rmc_1, mo_rmc_22] at *; omega)), (by first | omega | (simp only [mo_uz_1, mo_uz_2, mo_uf_1, mo_uf_2, mo_uf_22, mo_ug_1, mo_ug_2, mo_ug_22, mo_len, Nat.reduceEqDiff, false_and, true_and, and_true, and_false, if_false, if_true, reduceIte, ite_true, ite_false, ne_eq, not_true_eq_false, not_false_eq_true, mo_rmc_1, mo_rmc_22] at *; omega))⟩ ?_
          first
            | exact Or.inl (by first | omega | (simp only [mo_uz_1, mo_uz_2, mo_uf_1, mo_uf_2, mo_uf_22, mo_ug_1, mo_ug_2, mo_ug_22, mo_len, Nat.reduceEqDiff, false_and, true_and, and_true, and_false, if_false, if_true, reduceIte, ite_true, ite_false, ne_eq, not_true_eq_false, not_false_eq_true, mo_rmc_1, mo_rmc_22] at *; omega))
            | (rcases hm with ⟨g1, g2⟩ | ⟨g1, g2⟩
               · exact Or.inr g2
               · omega)
    · refine mw_iconst dM_release_13 ?_
      refine mw_goto (tgt := 18) dM_release_14 (by decide) ?_
      refine mw_iconst dM_release_18 ?_
      refine mw_callV2 dM_release_19 cM_110 (Nat.le_of_ble_eq_true rfl) (Nat.le_of_ble_eq_true rfl) rfl ?_
      refine mo_fails1 (by decide) ?_
      refine mw_if_eq (tgt := 27) dM_release_22 (by decide) (by first | omega | (simp only [mo_uz_1, mo_uz_2, mo_uf_1, mo_uf_2, mo_uf_22, mo_ug_1, mo_ug_2, mo_ug_22, mo_len, Nat.reduceEqDiff, false_and, true_and, and_true, and_false, if_false, if_true, reduceIte, ite_true, ite_false, ne_eq, not_true_eq_false, not_false_eq_true, mo_rmc_1, mo_rmc_22] at *; omega)) (fun hb22 => absurd hb22 (by decide)) (fun _ => ?_)
      refine mw_iconst dM_release_25 ?_
      refine mw_iret dM_release_26 rfl ?_
      exact hbad (by first | omega | (simp only [mo_uz_1, mo_uz_2, mo_uf_1, mo_uf_2, mo_uf_22, mo_ug_1, mo_ug_2, mo_ug_22, mo_len, Nat.reduceEqDiff, false_and, true_and, and_true, and_false, if_false, if_true, reduceIte, ite_true, ite_false, ne_eq, not_true_eq_false, not_false_eq_true, mo_rmc_1, mo_rmc_22] at *; omega))

end MO12
