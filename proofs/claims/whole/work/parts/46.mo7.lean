/-! the reference: look, seek -/
section MO7
variable {G : aw_G} {b : Nat} {ad : Nat → Nat} {d : Nat} {Q : aw_O → mo_S → Prop} {s : mo_S} {kc ks : Nat}
/-- how many of the classes 8 .. 8 + n - 1 are of the loader l -/
def mo_dc (f : Int → Int) (l : Int) : Nat → Int
  | 0 => 0
  | n + 1 => mo_dc f l n + (if f ((n : Int) + 8) = l then 1 else 0)
theorem mo_dc_b (f : Int → Int) (l : Int) (n : Nat) : 0 ≤ mo_dc f l n ∧ mo_dc f l n ≤ n := by
  induction n with
  | zero => exact ⟨Int.le_refl _, Int.le_refl _⟩
  | succ n ih =>
    rw [mo_dc]
    split <;> constructor <;> omega
theorem mo_dc_s (f : Int → Int) (l : Int) {i : Int} (h : 8 ≤ i) : mo_dc f l (i + 1 - 8).toNat = mo_dc f l (i - 8).toNat + (if f i = l then 1 else 0) := by
  have e : (i + 1 - 8).toNat = (i - 8).toNat + 1 := by omega
  have e2 : (((i - 8).toNat : Nat) : Int) + 8 = i := by omega
  rw [e, mo_dc, e2]
/-- the two marks of a search -/
def mo_ff (s : mo_S) (x y : Int) : mo_S := mo_uz (mo_uz s 29 x) 30 y
theorem mo_ff_l (s : mo_S) (x y : Int) : (mo_ff s x y).1 29 = x := rfl
theorem mo_ff_f (s : mo_S) (x y : Int) : (mo_ff s x y).1 30 = y := rfl
theorem mo_ff_12 (s : mo_S) (x y : Int) : (mo_ff s x y).1 12 = s.1 12 := rfl
theorem mo_ff_24 (s : mo_S) (x y : Int) : (mo_ff s x y).1 24 = s.1 24 := rfl
theorem mo_ff_2 (s : mo_S) (x y : Int) : (mo_ff s x y).2 = s.2 := rfl
theorem mo_uz_uz (s : mo_S) (k : Nat) (x y : Int) : mo_uz (mo_uz s k x) k y = mo_uz s k y := by
  obtain ⟨z, t⟩ := s
  show (_, t) = (_, t)
  congr 1
  funext j
  show (if j = k then y else if j = k then x else z j) = if j = k then y else z j
  split <;> rfl
theorem mo_uz_cm (s : mo_S) {k k2 : Nat} (h : k ≠ k2) (x y : Int) : mo_uz (mo_uz s k x) k2 y = mo_uz (mo_uz s k2 y) k x := by
  obtain ⟨z, t⟩ := s
  show (_, t) = (_, t)
  congr 1
  funext j
  show (if j = k2 then y else if j = k then x else z j) = if j = k then x else if j = k2 then y else z j
  by_cases e1 : j = k2
  · subst e1
    rw [if_pos rfl, if_neg (fun e => h e.symm), if_pos rfl]
  · rw [if_neg e1, if_neg e1]
theorem mo_uz_id (s : mo_S) (k : Nat) : mo_uz s k (s.1 k) = s := by
  obtain ⟨z, t⟩ := s
  show (_, t) = (_, t)
  congr 1
  funext j
  show (if j = k then z k else z j) = z j
  split
  · rename_i e; rw [e]
  · rfl
theorem mo_ff_30 (s : mo_S) (x y z : Int) : mo_uz (mo_ff s x y) 30 z = mo_ff s x z := mo_uz_uz _ _ _ _
theorem mo_ff_29 (s : mo_S) (x y z : Int) : mo_uz (mo_ff s x y) 29 z = mo_ff s z y := by
  unfold mo_ff
  rw [mo_uz_cm _ (by decide), mo_uz_uz]
theorem mo_ff_ff (s : mo_S) (x y z w : Int) : mo_ff (mo_ff s x y) z w = mo_ff s z w := by
  show mo_uz (mo_uz (mo_ff s x y) 29 z) 30 w = _
  rw [mo_ff_29, mo_ff_30]
theorem mo_ff_b (s : mo_S) (y : Int) : mo_uz s 30 y = mo_ff s (s.1 29) y := by
  unfold mo_ff
  rw [mo_uz_id]
/-- everything but the numbers -/
abbrev mo_T := (Nat → Int → Int) × (Nat → Int → Int64)
def mo_s0 (t : mo_T) : mo_S := (fun _ => 0, t)
/-- the name n is on no place of the sheet y -/
def mo_nf (t : mo_T) (y n : Int) : Prop := ∀ k, 0 ≤ k → k < t.1 1 y → ¬ t.1 2 (24 * y + 3 * k) = n
/-- the loader l has no file of the name n -/
def mo_nfl (t : mo_T) (l n : Int) : Prop := ∀ i, 0 ≤ i → i < t.1 8 l → mo_nf t (10 + 4 * l + i) n
/-- f is where the loader l's first archive that has one has the name n -/
def mo_fl (t : mo_T) (l n f : Int) : Prop := ∃ i k, (0 ≤ i ∧ i < t.1 8 l) ∧ (∀ j, 0 ≤ j → j < i → mo_nf t (10 + 4 * l + j) n) ∧ (0 ≤ k ∧ k < t.1 1 (10 + 4 * l + i)) ∧ f = 24 * (10 + 4 * l + i) + 3 * k ∧ t.1 2 (24 * (10 + 4 * l + i) + 3 * k) = n
/-- the names on the sheet y are in range -/
def mo_nr (t : mo_T) (y : Int) : Prop := ∀ k, 0 ≤ k → k < t.1 1 y → (8 ≤ t.1 2 (24 * y + 3 * k) ∧ t.1 2 (24 * y + 3 * k) ≤ 63) ∧ 0 ≤ t.1 2 (24 * y + 3 * k + 1) ∧ t.1 2 (24 * y + 3 * k + 1) ≤ 63
/-- the loaders from l up, at most n of them, are as loaders are -/
def mo_ldr (t : mo_T) (l : Int) : Prop := (1 ≤ l ∧ l ≤ 40) ∧ (t.1 6 l = 1 ∨ t.1 6 l = 2) ∧ (0 ≤ t.1 8 l ∧ t.1 8 l ≤ 4) ∧ (t.1 6 l = 2 → t.1 8 l = 0) ∧ (∀ i, 0 ≤ i → i < t.1 8 l → mo_uq (mo_s0 t) (10 + 4 * l + i)) ∧ (∀ i, 0 ≤ i → i < t.1 8 l → mo_nr t (10 + 4 * l + i))
def mo_chn (t : mo_T) : Nat → Int → Prop
  | 0, l => l = 0
  | n + 1, l => l = 0 ∨ (mo_ldr t l ∧ mo_chn t n (t.1 7 l))
/-- what the search for the name m from the loader l on comes to -/
def mo_sr (t : mo_T) (m : Int) : Nat → Int → Option (Int × Int) → Prop
  | 0, _, r => r = none
  | n + 1, l, r => (l = 0 ∧ r = none) ∨ (1 ≤ l ∧ ((t.1 6 l = 2 ∧ ((¬ mo_adm (mo_s0 t) l m ∧ r = none) ∨ (mo_adm (mo_s0 t) l m ∧ mo_sr t m n (t.1 7 l) r))) ∨ (¬ t.1 6 l = 2 ∧ ((∃ f, r = some (l, f) ∧ mo_fl t l m f) ∨ (mo_nfl t l m ∧ mo_sr t m n (t.1 7 l) r)))))
theorem mo_fl_nf {t : mo_T} {l n f : Int} (h : mo_fl t l n f) (h' : mo_nfl t l n) : False := by
  obtain ⟨i, k, h1, h2, h3, h4, h5⟩ := h
  exact h' i h1.1 h1.2 k h3.1 h3.2 h5
theorem mo_fl_u {t : mo_T} {l n f f' : Int} (hu : ∀ i, 0 ≤ i → i < t.1 8 l → mo_uq (mo_s0 t) (10 + 4 * l + i)) (h : mo_fl t l n f) (h' : mo_fl t l n f') : f = f' := by
  obtain ⟨i, k, h1, h2, h3, h4, h5⟩ := h
  obtain ⟨i', k', h1', h2', h3', h4', h5'⟩ := h'
  have e : i = i' := by
    by_cases e1 : i < i'
    · exact absurd h5 (h2' i h1.1 e1 k h3.1 h3.2)
    · by_cases e2 : i' < i
      · exact absurd h5' (h2 i' h1'.1 e2 k' h3'.1 h3'.2)
      · omega
  subst e
  have e := (hu i h1.1 h1.2).2.2.1 k k' h3.1 h3.2 h3'.1 h3'.2 (h5.trans h5'.symm)
  omega
theorem mo_fl_b {t : mo_T} {l n f : Int} (hl : mo_ldr t l) (h : mo_fl t l n f) : 0 ≤ f ∧ f ≤ 4173 := by
  obtain ⟨i, k, h1, h2, h3, h4, h5⟩ := h
  have hu : 0 ≤ t.1 1 (10 + 4 * l + i) ∧ t.1 1 (10 + 4 * l + i) ≤ 8 := (hl.2.2.2.2.1 i h1.1 h1.2).1
  have h9 := hl.1
  have h8 := hl.2.2.1
  omega
theorem mo_sr_ex (t : mo_T) (m : Int) : ∀ n l, mo_chn t n l → ∃ r, mo_sr t m n l r := by
  intro n
  induction n with
  | zero => exact fun l _ => ⟨none, rfl⟩
  | succ n ih =>
    intro l h
    rcases h with h | ⟨h, h2⟩
    · exact ⟨none, Or.inl ⟨h, rfl⟩⟩
    · obtain ⟨r, hr⟩ := ih _ h2
      by_cases e : t.1 6 l = 2
      · by_cases e2 : mo_adm (mo_s0 t) l m
        · exact ⟨r, Or.inr ⟨h.1.1, Or.inl ⟨e, Or.inr ⟨e2, hr⟩⟩⟩⟩
        · exact ⟨none, Or.inr ⟨h.1.1, Or.inl ⟨e, Or.inl ⟨e2, rfl⟩⟩⟩⟩
      · by_cases e2 : ∃ f, mo_fl t l m f
        · obtain ⟨f, hf⟩ := e2
          exact ⟨some (l, f), Or.inr ⟨h.1.1, Or.inr ⟨e, Or.inl ⟨f, rfl, hf⟩⟩⟩⟩
        · have hno : ∀ N : Nat, ∀ i, i < (N : Int) → 0 ≤ i → i < t.1 8 l → mo_nf t (10 + 4 * l + i) m := by
            intro N
            induction N with
            | zero => intro i h1 h2; exact absurd h1 (by omega)
            | succ N ihN =>
              intro i h1 h2 h3 k h4 h5 h6
              exact e2 ⟨_, i, k, ⟨h2, h3⟩, fun j q1 q2 => ihN j (by omega) q1 (by omega), ⟨h4, h5⟩, rfl, h6⟩
          refine ⟨r, Or.inr ⟨h.1.1, Or.inr ⟨e, Or.inr ⟨fun i h1 h2 => hno (i + 1).toNat i (by omega) h1 h2, hr⟩⟩⟩⟩
theorem mo_look_l {l q : Int} (hl : 0 ≤ l ∧ l ≤ 40) (hq0 : 0 ≤ q ∧ q ≤ 3) (h24 : 8 ≤ s.1 24 ∧ s.1 24 ≤ 120) (h12 : 1 ≤ s.1 12 ∧ s.1 12 ≤ 12) (h0 : q = 0 → Q (.inl (some (.int (iI (s.2.1 6 l))))) s) (h1 : q = 1 → Q (.inl (some (.int (iI (s.2.1 7 l))))) s) (h2 : q = 2 → Q (.inl (some (.int (iI (mo_hold s l))))) s) (h3 : q = 3 → Q (.inl (some (.int (iI (mo_dc (s.2.1 26) l (s.1 24 - 8).toNat))))) s) : ∀ c : Int, c ≤ s.1 24 → 8 ≤ c → mw G b ad mM_look (d + 1) Q 41 [some (.ref b), some (.int (iI l)), some (.int (iI q)), some (.int (iI (mo_dc (s.2.1 26) l (c - 8).toNat))), some (.int (iI c))] [] s kc ks := by
  refine il_up (s.1 24) (fun c hc ih h8 => ?_)
  refine mw_iload dM_look_41 rfl ?_
  refine mw_aload_n dM_look_43 rfl ?_
  refine mw_getI dM_look_44 fM_82 rfl (fun hv44 => ?_)
  refine mw_icmp_ge (tgt := 75) dM_look_47 (by decide) (by first | omega | (simp only [mo_uz_1, mo_uz_2, mo_uf_1, mo_uf_2, mo_uf_22, mo_ug_1, mo_ug_2, mo_ug_22, mo_len, Nat.reduceEqDiff, false_and, true_and, and_true, and_false, if_false, if_true, reduceIte, ite_true, ite_false, ne_eq, not_true_eq_false, not_false_eq_true, mo_ff_l, mo_ff_f, mo_ff_2, mo_ff_12, mo_ff_24] at *; omega)) (by first | omega | (simp only [mo_uz_1, mo_uz_2, mo_uf_1, mo_uf_2, mo_uf_22, mo_ug_1, mo_ug_2, mo_ug_22, mo_len, Nat.reduceEqDiff, false_and, true_and, and_true, and_false, if_false, if_true, reduceIte, ite_true, ite_false, ne_eq, not_true_eq_false, not_false_eq_true, mo_ff_l, mo_ff_f, mo_ff_2, mo_ff_12, mo_ff_24] at *; omega)) (fun hb47 => ?_) (fun hb47 => ?_)
  · have e9 : c = s.1 24 := by omega
    rw [e9]
    refine mw_iload_n dM_look_75 rfl ?_
    refine mw_if_ne (tgt := 88) dM_look_76 (by decide) (by first | omega | (simp only [mo_uz_1, mo_uz_2, mo_uf_1, mo_uf_2, mo_uf_22, mo_ug_1, mo_ug_2, mo_ug_22, mo_len, Nat.reduceEqDiff, false_and, true_and, and_true, and_false, if_false, if_true, reduceIte, ite_true, ite_false, ne_eq, not_true_eq_false, not_false_eq_true, mo_ff_l, mo_ff_f, mo_ff_2, mo_ff_12, mo_ff_24] at *; omega)) (fun hb76 => ?_) (fun hb76 => ?_)
    · refine mw_iload_n dM_look_88 rfl ?_
      refine mw_iconst dM_look_89 ?_
      refine mw_icmp_ne (tgt := 102) dM_look_90 (by decide) (by first | omega | (simp only [mo_uz_1, mo_uz_2, mo_uf_1, mo_uf_2, mo_uf_22, mo_ug_1, mo_ug_2, mo_ug_22, mo_len, Nat.reduceEqDiff, false_and, true_and, and_true, and_false, if_false, if_true, reduceIte, ite_true, ite_false, ne_eq, not_true_eq_false, not_false_eq_true, mo_ff_l, mo_ff_f, mo_ff_2, mo_ff_12, mo_ff_24] at *; omega)) (by first | omega | (simp only [mo_uz_1, mo_uz_2, mo_uf_1, mo_uf_2, mo_uf_22, mo_ug_1, mo_ug_2, mo_ug_22, mo_len, Nat.reduceEqDiff, false_and, true_and, and_true, and_false, if_false, if_true, reduceIte, ite_true, ite_false, ne_eq, not_true_eq_false, not_false_eq_true, mo_ff_l, mo_ff_f, mo_ff_2, mo_ff_12, mo_ff_24] at *; omega)) (fun hb90 => ?_) (fun hb90 => ?_)
      · refine mw_iload_n dM_look_102 rfl ?_
        refine mw_iconst dM_look_103 ?_
        refine mw_icmp_ne (tgt := 115) dM_look_104 (by decide) (by first | omega | (simp only [mo_uz_1, mo_uz_2, mo_uf_1, mo_uf_2, mo_uf_22, mo_ug_1, mo_ug_2, mo_ug_22, mo_len, Nat.reduceEqDiff, false_and, true_and, and_true, and_false, if_false, if_true, reduceIte, ite_true, ite_false, ne_eq, not_true_eq_false, not_false_eq_true, mo_ff_l, mo_ff_f, mo_ff_2, mo_ff_12, mo_ff_24] at *; omega)) (by first | omega | (simp only [mo_uz_1, mo_uz_2, mo_uf_1, mo_uf_2, mo_uf_22, mo_ug_1, mo_ug_2, mo_ug_22, mo_len, Nat.reduceEqDiff, false_and, true_and, and_true, and_false, if_false, if_true, reduceIte, ite_true, ite_false, ne_eq, not_true_eq_false, not_false_eq_true, mo_ff_l, mo_ff_f, mo_ff_2, mo_ff_12, mo_ff_24] at *; omega)) (fun hb104 => ?_) (fun hb104 => ?_)
        · refine mw_iload_n dM_look_115 rfl ?_
          refine mw_iret dM_look_116 rfl ?_
          first | exact h0 (by omega) | exact h1 (by omega) | exact h2 (by omega) | exact h3 (by omega)
        · refine mw_aload_n dM_look_107 rfl ?_
          refine mw_iload_n dM_look_108 rfl ?_
          refine mw_callV1 dM_look_109 cM_136 (Nat.le_of_ble_eq_true rfl) (Nat.le_of_ble_eq_true rfl) rfl ?_
          refine mo_holders hl h12 ?_
          refine mw_goto (tgt := 116) dM_look_112 (by decide) ?_
          refine mw_iret dM_look_116 rfl ?_
          first | exact h0 (by omega) | exact h1 (by omega) | exact h2 (by omega) | exact h3 (by omega)
      · refine mw_aload_n dM_look_93 rfl ?_
        refine mw_get dM_look_94 fM_29 rfl ?_
        refine mw_iload_n dM_look_97 rfl ?_
        refine mw_iald dM_look_98 rfl rfl (by first | omega | (simp only [mo_uz_1, mo_uz_2, mo_uf_1, mo_uf_2, mo_uf_22, mo_ug_1, mo_ug_2, mo_ug_22, mo_len, Nat.reduceEqDiff, false_and, true_and, and_true, and_false, if_false, if_true, reduceIte, ite_true, ite_false, ne_eq, not_true_eq_false, not_false_eq_true, mo_ff_l, mo_ff_f, mo_ff_2, mo_ff_12, mo_ff_24] at *; omega)) (by first | omega | (simp only [mo_uz_1, mo_uz_2, mo_uf_1, mo_uf_2, mo_uf_22, mo_ug_1, mo_ug_2, mo_ug_22, mo_len, Nat.reduceEqDiff, false_and, true_and, and_true, and_false, if_false, if_true, reduceIte, ite_true, ite_false, ne_eq, not_true_eq_false, not_false_eq_true, mo_ff_l, mo_ff_f, mo_ff_2, mo_ff_12, mo_ff_24] at *; omega)) (fun hv98 => ?_)
        refine mw_goto (tgt := 116) dM_look_99 (by decide) ?_
        refine mw_iret dM_look_116 rfl ?_
        first | exact h0 (by omega) | exact h1 (by omega) | exact h2 (by omega) | exact h3 (by omega)
    · refine mw_aload_n dM_look_79 rfl ?_
      refine mw_get dM_look_80 fM_26 rfl ?_
      refine mw_iload_n dM_look_83 rfl ?_
      refine mw_iald dM_look_84 rfl rfl (by first | omega | (simp only [mo_uz_1, mo_uz_2, mo_uf_1, mo_uf_2, mo_uf_22, mo_ug_1, mo_ug_2, mo_ug_22, mo_len, Nat.reduceEqDiff, false_and, true_and, and_true, and_false, if_false, if_true, reduceIte, ite_true, ite_false, ne_eq, not_true_eq_false, not_false_eq_true, mo_ff_l, mo_ff_f, mo_ff_2, mo_ff_12, mo_ff_24] at *; omega)) (by first | omega | (simp only [mo_uz_1, mo_uz_2, mo_uf_1, mo_uf_2, mo_uf_22, mo_ug_1, mo_ug_2, mo_ug_22, mo_len, Nat.reduceEqDiff, false_and, true_and, and_true, and_false, if_false, if_true, reduceIte, ite_true, ite_false, ne_eq, not_true_eq_false, not_false_eq_true, mo_ff_l, mo_ff_f, mo_ff_2, mo_ff_12, mo_ff_24] at *; omega)) (fun hv84 => ?_)
      refine mw_goto (tgt := 116) dM_look_85 (by decide) ?_
      refine mw_iret dM_look_116 rfl ?_
      first | exact h0 (by omega) | exact h1 (by omega) | exact h2 (by omega) | exact h3 (by omega)
  · have hbm := mo_dc_b (s.2.1 26) l (c - 8).toNat
    refine mw_aload_n dM_look_50 rfl ?_
    refine mw_get dM_look_51 fM_88 rfl ?_
    refine mw_iload dM_look_54 rfl ?_
    refine mw_iald dM_look_56 rfl rfl (by first | omega | (simp only [mo_uz_1, mo_uz_2, mo_uf_1, mo_uf_2, mo_uf_22, mo_ug_1, mo_ug_2, mo_ug_22, mo_len, Nat.reduceEqDiff, false_and, true_and, and_true, and_false, if_false, if_true, reduceIte, ite_true, ite_false, ne_eq, not_true_eq_false, not_false_eq_true, mo_ff_l, mo_ff_f, mo_ff_2, mo_ff_12, mo_ff_24] at *; omega)) (by first | omega | (simp only [mo_uz_1, mo_uz_2, mo_uf_1, mo_uf_2, mo_uf_22, mo_ug_1, mo_ug_2, mo_ug_22, mo_len, Nat.reduceEqDiff, false_and, true_and, and_true, and_false, if_false, if_true, reduceIte, ite_true, ite_false, ne_eq, not_true_eq_false, not_false_eq_true, mo_ff_l, mo_ff_f, mo_ff_2, mo_ff_12, mo_ff_24] at *; omega)) (fun hv56 => ?_)
    refine mw_iload_n dM_look_57 rfl ?_
    refine mw_icmp_ne (tgt := 67) dM_look_58 (by decide) (by first | omega | (simp only [mo_uz_1, mo_uz_2, mo_uf_1, mo_uf_2, mo_uf_22, mo_ug_1, mo_ug_2, mo_ug_22, mo_len, Nat.reduceEqDiff, false_and, true_and, and_true, and_false, if_false, if_true, reduceIte, ite_true, ite_false, ne_eq, not_true_eq_false, not_false_eq_true, mo_ff_l, mo_ff_f, mo_ff_2, mo_ff_12, mo_ff_24] at *; omega)) (by first | omega | (simp only [mo_uz_1, mo_uz_2, mo_uf_1, mo_uf_2, mo_uf_22, mo_ug_1, mo_ug_2, mo_ug_22, mo_len, Nat.reduceEqDiff, false_and, true_and, and_true, and_false, if_false, if_true, reduceIte, ite_true, ite_false, ne_eq, not_true_eq_false, not_false_eq_true, mo_ff_l, mo_ff_f, mo_ff_2, mo_ff_12, mo_ff_24] at *; omega)) (fun hb58 => ?_) (fun hb58 => ?_)
    · refine mw_iload_n dM_look_67 rfl ?_
      refine mw_istore_n dM_look_68 (by decide) rfl ?_
      refine mw_iinc dM_look_69 rfl (by decide) rfl ?_
      refine mw_goto (tgt := 41) dM_look_72 (by decide) ?_
      have e1 := mo_dc_s (s.2.1 26) l h8
      refine mw_lo ?_ (ih (by omega) (by omega))
      rw [e1]
      first | rw [if_pos (by omega)] | (rw [if_neg (by omega), Int.add_zero])
      rfl
    · refine mw_iload_n dM_look_61 rfl ?_
      refine mw_iconst dM_look_62 ?_
      refine mw_iadd dM_look_63 ?_
      refine mw_goto (tgt := 68) dM_look_64 (by decide) ?_
      refine mw_istore_n dM_look_68 (by decide) rfl ?_
      refine mw_iinc dM_look_69 rfl (by decide) rfl ?_
      refine mw_goto (tgt := 41) dM_look_72 (by decide) ?_
      have e1 := mo_dc_s (s.2.1 26) l h8
      refine mw_lo ?_ (ih (by omega) (by omega))
      rw [e1]
      first | rw [if_pos (by omega)] | (rw [if_neg (by omega), Int.add_zero])
      rfl
theorem mo_look {l q : Int} (hl : iB l) (hq0 : iB q) (h24 : 8 ≤ s.1 24 ∧ s.1 24 ≤ 120) (h12 : 1 ≤ s.1 12 ∧ s.1 12 ≤ 12) (hbad : ¬ (((0 ≤ l ∧ l ≤ 40) ∧ s.2.1 5 l ≠ 0) ∧ 0 ≤ q ∧ q ≤ 3) → Q (.inl (some (.int (iI (-1))))) (mo_uz s 0 0)) (hg : ((0 ≤ l ∧ l ≤ 40) ∧ s.2.1 5 l ≠ 0) ∧ 0 ≤ q ∧ q ≤ 3 → ∀ r, (q = 0 → r = s.2.1 6 l) → (q = 1 → r = s.2.1 7 l) → (q = 2 → r = mo_hold (mo_uz s 0 0) l) → (q = 3 → r = mo_dc (s.2.1 26) l (s.1 24 - 8).toNat) → Q (.inl (some (.int (iI r)))) (mo_uz s 0 0)) : mw G b ad mM_look (d + 1) Q 0 [some (.ref b), some (.int (iI l)), some (.int (iI q)), none, none] [] s kc ks := by
  refine mw_aload_n dM_look_0 rfl ?_
  refine mw_iconst dM_look_1 ?_
  refine mw_putI dM_look_2 sM_103 (by decide) rfl (by first | omega | (simp only [mo_uz_1, mo_uz_2, mo_uf_1, mo_uf_2, mo_uf_22, mo_ug_1, mo_ug_2, mo_ug_22, mo_len, Nat.reduceEqDiff, false_and, true_and, and_true, and_false, if_false, if_true, reduceIte, ite_true, ite_false, ne_eq, not_true_eq_false, not_false_eq_true, mo_ff_l, mo_ff_f, mo_ff_2, mo_ff_12, mo_ff_24] at *; omega)) ?_
  refine mw_iload_n dM_look_5 rfl ?_
  refine mw_if_lt (tgt := 33) dM_look_6 (by decide) (by first | omega | (simp only [mo_uz_1, mo_uz_2, mo_uf_1, mo_uf_2, mo_uf_22, mo_ug_1, mo_ug_2, mo_ug_22, mo_len, Nat.reduceEqDiff, false_and, true_and, and_true, and_false, if_false, if_true, reduceIte, ite_true, ite_false, ne_eq, not_true_eq_false, not_false_eq_true, mo_ff_l, mo_ff_f, mo_ff_2, mo_ff_12, mo_ff_24] at *; omega)) (fun hb6 => ?_) (fun hb6 => ?_)
  · refine mw_iconst dM_look_33 ?_
    refine mw_iret dM_look_34 rfl ?_
    first | exact hbad (by first | omega | (simp only [mo_uz_1, mo_uz_2, mo_uf_1, mo_uf_2, mo_uf_22, mo_ug_1, mo_ug_2, mo_ug_22, mo_len, Nat.reduceEqDiff, false_and, true_and, and_true, and_false, if_false, if_true, reduceIte, ite_true, ite_false, ne_eq, not_true_eq_false, not_false_eq_true, mo_ff_l, mo_ff_f, mo_ff_2, mo_ff_12, mo_ff_24] at *; omega))
  · refine mw_iload_n dM_look_9 rfl ?_
    refine mw_bipush dM_look_10 (by decide +kernel) ?_
    refine mw_icmp_ge (tgt := 33) dM_look_12 (by decide) (by first | omega | (simp only [mo_uz_1, mo_uz_2, mo_uf_1, mo_uf_2, mo_uf_22, mo_ug_1, mo_ug_2, mo_ug_22, mo_len, Nat.reduceEqDiff, false_and, true_and, and_true, and_false, if_false, if_true, reduceIte, ite_true, ite_false, ne_eq, not_true_eq_false, not_false_eq_true, mo_ff_l, mo_ff_f, mo_ff_2, mo_ff_12, mo_ff_24] at *; omega)) (by first | omega | (simp only [mo_uz_1, mo_uz_2, mo_uf_1, mo_uf_2, mo_uf_22, mo_ug_1, mo_ug_2, mo_ug_22, mo_len, Nat.reduceEqDiff, false_and, true_and, and_true, and_false, if_false, if_true, reduceIte, ite_true, ite_false, ne_eq, not_true_eq_false, not_false_eq_true, mo_ff_l, mo_ff_f, mo_ff_2, mo_ff_12, mo_ff_24] at *; omega)) (fun hb12 => ?_) (fun hb12 => ?_)
    · refine mw_iconst dM_look_33 ?_
      refine mw_iret dM_look_34 rfl ?_
      first | exact hbad (by first | omega | (simp only [mo_uz_1, mo_uz_2, mo_uf_1, mo_uf_2, mo_uf_22, mo_ug_1, mo_ug_2, mo_ug_22, mo_len, Nat.reduceEqDiff, false_and, true_and, and_true, and_false, if_false, if_true, reduceIte, ite_true, ite_false, ne_eq, not_true_eq_false, not_false_eq_true, mo_ff_l, mo_ff_f, mo_ff_2, mo_ff_12, mo_ff_24] at *; omega))
    · refine mw_aload_n dM_look_15 rfl ?_
      refine mw_get dM_look_16 fM_22 rfl ?_
      refine mw_iload_n dM_look_19 rfl ?_
      refine mw_zald dM_look_20 rfl rfl (by first | omega | (simp only [mo_uz_1, mo_uz_2, mo_uf_1, mo_uf_2, mo_uf_22, mo_ug_1, mo_ug_2, mo_ug_22, mo_len, Nat.reduceEqDiff, false_and, true_and, and_true, and_false, if_false, if_true, reduceIte, ite_true, ite_false, ne_eq, not_true_eq_false, not_false_eq_true, mo_ff_l, mo_ff_f, mo_ff_2, mo_ff_12, mo_ff_24] at *; omega)) (by first | omega | (simp only [mo_uz_1, mo_uz_2, mo_uf_1, mo_uf_2, mo_uf_22, mo_ug_1, mo_ug_2, mo_ug_22, mo_len, Nat.reduceEqDiff, false_and, true_and, and_true, and_false, if_false, if_true, reduceIte, ite_true, ite_false, ne_eq, not_true_eq_false, not_false_eq_true, mo_ff_l, mo_ff_f, mo_ff_2, mo_ff_12, mo_ff_24] at *; omega)) (fun hv20 => ?_)
      refine mw_if_eq (tgt := 33) dM_look_21 (by decide) (by first | omega | (simp only [mo_uz_1, mo_uz_2, mo_uf_1, mo_uf_2, mo_uf_22, mo_ug_1, mo_ug_2, mo_ug_22, mo_len, Nat.reduceEqDiff, false_and, true_and, and_true, and_false, if_false, if_true, reduceIte, ite_true, ite_false, ne_eq, not_true_eq_false, not_false_eq_true, mo_ff_l, mo_ff_f, mo_ff_2, mo_ff_12, mo_ff_24] at *; omega)) (fun hb21 => ?_) (fun hb21 => ?_)
      · refine mw_iconst dM_look_33 ?_
        refine mw_iret dM_look_34 rfl ?_
        first | exact hbad (by first | omega | (simp only [mo_uz_1, mo_uz_2, mo_uf_1, mo_uf_2, mo_uf_22, mo_ug_1, mo_ug_2, mo_ug_22, mo_len, Nat.reduceEqDiff, false_and, true_and, and_true, and_false, if_false, if_true, reduceIte, ite_true, ite_false, ne_eq, not_true_eq_false, not_false_eq_true, mo_ff_l, mo_ff_f, mo_ff_2, mo_ff_12, mo_ff_24] at *; omega))
      · refine mw_iload_n dM_look_24 rfl ?_
        refine mw_iconst dM_look_25 ?_
        refine mw_iconst dM_look_26 ?_
        refine mw_callS3 dM_look_27 cM_106 (Nat.le_of_ble_eq_true rfl) (Nat.le_of_ble_eq_true rfl) rfl ?_
        refine mo_in (by first | omega | (simp only [mo_uz_1, mo_uz_2, mo_uf_1, mo_uf_2, mo_uf_22, mo_ug_1, mo_ug_2, mo_ug_22, mo_len, Nat.reduceEqDiff, false_and, true_and, and_true, and_false, if_false, if_true, reduceIte, ite_true, ite_false, ne_eq, not_true_eq_false, not_false_eq_true, mo_ff_l, mo_ff_f, mo_ff_2, mo_ff_12, mo_ff_24] at *; omega)) (by first | omega | (simp only [mo_uz_1, mo_uz_2, mo_uf_1, mo_uf_2, mo_uf_22, mo_ug_1, mo_ug_2, mo_ug_22, mo_len, Nat.reduceEqDiff, false_and, true_and, and_true, and_false, if_false, if_true, reduceIte, ite_true, ite_false, ne_eq, not_true_eq_false, not_false_eq_true, mo_ff_l, mo_ff_f, mo_ff_2, mo_ff_12, mo_ff_24] at *; omega)) (by first | omega | (simp only [mo_uz_1, mo_uz_2, mo_uf_1, mo_uf_2, mo_uf_22, mo_ug_1, mo_ug_2, mo_ug_22, mo_len, Nat.reduceEqDiff, false_and, true_and, and_true, and_false, if_false, if_true, reduceIte, ite_true, ite_false, ne_eq, not_true_eq_false, not_false_eq_true, mo_ff_l, mo_ff_f, mo_ff_2, mo_ff_12, mo_ff_24] at *; omega)) (fun hi27 => ?_) (fun hi27 => ?_)
        · refine mw_if_ne (tgt := 35) dM_look_30 (by decide) (by first | omega | (simp only [mo_uz_1, mo_uz_2, mo_uf_1, mo_uf_2, mo_uf_22, mo_ug_1, mo_ug_2, mo_ug_22, mo_len, Nat.reduceEqDiff, false_and, true_and, and_true, and_false, if_false, if_true, reduceIte, ite_true, ite_false, ne_eq, not_true_eq_false, not_false_eq_true, mo_ff_l, mo_ff_f, mo_ff_2, mo_ff_12, mo_ff_24] at *; omega)) (fun _ => ?_) (fun hb30 => absurd hb30 (by decide))
          refine mw_iconst dM_look_35 ?_
          refine mw_istore_n dM_look_36 (by decide) rfl ?_
          refine mw_bipush dM_look_37 (by decide +kernel) ?_
          refine mw_istore dM_look_39 (by decide) rfl ?_
          refine mo_look_l (s := mo_uz s 0 0) (by first | omega | (simp only [mo_uz_1, mo_uz_2, mo_uf_1, mo_uf_2, mo_uf_22, mo_ug_1, mo_ug_2, mo_ug_22, mo_len, Nat.reduceEqDiff, false_and, true_and, and_true, and_false, if_false, if_true, reduceIte, ite_true, ite_false, ne_eq, not_true_eq_false, not_false_eq_true, mo_ff_l, mo_ff_f, mo_ff_2, mo_ff_12, mo_ff_24] at *; omega)) (by first | omega | (simp only [mo_uz_1, mo_uz_2, mo_uf_1, mo_uf_2, mo_uf_22, mo_ug_1, mo_ug_2, mo_ug_22, mo_len, Nat.reduceEqDiff, false_and, true_and, and_true, and_false, if_false, if_true, reduceIte, ite_true, ite_false, ne_eq, not_true_eq_false, not_false_eq_true, mo_ff_l, mo_ff_f, mo_ff_2, mo_ff_12, mo_ff_24] at *; omega)) h24 h12 (fun e => hg (by first | omega | (simp only [mo_uz_1, mo_uz_2, mo_uf_1, mo_uf_2, mo_uf_22, mo_ug_1, mo_ug_2, mo_ug_22, mo_len, Nat.reduceEqDiff, false_and, true_and, and_true, and_false, if_false, if_true, reduceIte, ite_true, ite_false, ne_eq, not_true_eq_false, not_false_eq_true, mo_ff_l, mo_ff_f, mo_ff_2, mo_ff_12, mo_ff_24] at *; omega)) _ (fun _ => rfl) (fun _ => by omega) (fun _ => by omega) (fun _ => by omega)) (fun e => hg (by first | omega | (simp only [mo_uz_1, mo_uz_2, mo_uf_1, mo_uf_2, mo_uf_22, mo_ug_1, mo_ug_2, mo_ug_22, mo_len, Nat.reduceEqDiff, false_and, true_and, and_true, and_false, if_false, if_true, reduceIte, ite_true, ite_false, ne_eq, not_true_eq_false, not_false_eq_true, mo_ff_l, mo_ff_f, mo_ff_2, mo_ff_12, mo_ff_24] at *; omega)) _ (fun _ => by omega) (fun _ => rfl) (fun _ => by omega) (fun _ => by omega)) (fun e => hg (by first | omega | (simp only [mo_uz_1, mo_uz_2, mo_uf_1, mo_uf_2, mo_uf_22, mo_ug_1, mo_ug_2, mo_ug_22, mo_len, Nat.reduceEqDiff, false_and, true_and, and_true, and_false, if_false, if_true, reduceIte, ite_true, ite_false, ne_eq, not_true_eq_false, not_false_eq_true, mo_ff_l, mo_ff_f, mo_ff_2, mo_ff_12, mo_ff_24] at *; omega)) _ (fun _ => by omega) (fun _ => by omega) (fun _ => rfl) (fun _ => by omega)) (fun e => hg (by first | omega | (simp only [mo_uz_1, mo_uz_2, mo_uf_1, mo_uf_2, mo_uf_22, mo_ug_1, mo_ug_2, mo_ug_22, mo_len, Nat.reduceEqDiff, false_and, true_and, and_true, and_false, if_false, if_true, reduceIte, ite_true, ite_false, ne_eq, not_true_eq_false, not_false_eq_true, mo_ff_l, mo_ff_f, mo_ff_2, mo_ff_12, mo_ff_24] at *; omega)) _ (fun _ => by omega) (fun _ => by omega) (fun _ => by omega) (fun _ => rfl)) 8 h24.1 (by decide)
        · refine mw_if_ne (tgt := 35) dM_look_30 (by decide) (by first | omega | (simp only [mo_uz_1, mo_uz_2, mo_uf_1, mo_uf_2, mo_uf_22, mo_ug_1, mo_ug_2, mo_ug_22, mo_len, Nat.reduceEqDiff, false_and, true_and, and_true, and_false, if_false, if_true, reduceIte, ite_true, ite_false, ne_eq, not_true_eq_false, not_false_eq_true, mo_ff_l, mo_ff_f, mo_ff_2, mo_ff_12, mo_ff_24] at *; omega)) (fun hb30 => absurd hb30 (by decide)) (fun _ => ?_)
          refine mw_iconst dM_look_33 ?_
          refine mw_iret dM_look_34 rfl ?_
          first | exact hbad (by first | omega | (simp only [mo_uz_1, mo_uz_2, mo_uf_1, mo_uf_2, mo_uf_22, mo_ug_1, mo_ug_2, mo_ug_22, mo_len, Nat.reduceEqDiff, false_and, true_and, and_true, and_false, if_false, if_true, reduceIte, ite_true, ite_false, ne_eq, not_true_eq_false, not_false_eq_true, mo_ff_l, mo_ff_f, mo_ff_2, mo_ff_12, mo_ff_24] at *; omega))

theorem mo_seek_f {l0 m l x : Int} (hl : mo_ldr s.2 l) (hm : iB m) (hk : ∀ i y, ((y < 0 ∧ mo_nfl s.2 l m) ∨ (0 ≤ y ∧ mo_fl s.2 l m y)) → mw G b ad mM_seek (d + 1) Q 96 [some (.ref b), some (.int (iI l0)), some (.int (iI m)), some (.int (iI l)), some (.int (iI i))] [] (mo_ff s x y) kc ks) : ∀ i : Int, i ≤ s.2.1 8 l → 0 ≤ i → ∀ y, ((y < 0 ∧ ∀ j, 0 ≤ j → j < i → mo_nf s.2 (10 + 4 * l + j) m) ∨ (0 ≤ y ∧ mo_fl s.2 l m y)) → mw G b ad mM_seek (d + 1) Q 54 [some (.ref b), some (.int (iI l0)), some (.int (iI m)), some (.int (iI l)), some (.int (iI i))] [] (mo_ff s x y) kc ks := by
  refine il_up (s.2.1 8 l) (fun i hi ih h0 y hy => ?_)
  have hl1 := hl.1
  have hl3 := hl.2.2.1
  refine mw_gb (fun hzb _ => ?_)
  have hyb : iB y := hzb 30
  refine mw_iload dM_seek_54 rfl ?_
  refine mw_aload_n dM_seek_56 rfl ?_
  refine mw_get dM_seek_57 fM_32 rfl ?_
  refine mw_iload_n dM_seek_60 rfl ?_
  refine mw_iald dM_seek_61 rfl rfl (by first | omega | (simp only [mo_uz_1, mo_uz_2, mo_uf_1, mo_uf_2, mo_uf_22, mo_ug_1, mo_ug_2, mo_ug_22, mo_len, Nat.reduceEqDiff, false_and, true_and, and_true, and_false, if_false, if_true, reduceIte, ite_true, ite_false, ne_eq, not_true_eq_false, not_false_eq_true, mo_ff_l, mo_ff_f, mo_ff_2, mo_ff_12, mo_ff_24] at *; omega)) (by first | omega | (simp only [mo_uz_1, mo_uz_2, mo_uf_1, mo_uf_2, mo_uf_22, mo_ug_1, mo_ug_2, mo_ug_22, mo_len, Nat.reduceEqDiff, false_and, true_and, and_true, and_false, if_false, if_true, reduceIte, ite_true, ite_false, ne_eq, not_true_eq_false, not_false_eq_true, mo_ff_l, mo_ff_f, mo_ff_2, mo_ff_12, mo_ff_24] at *; omega)) (fun hv61 => ?_)
  refine mw_icmp_ge (tgt := 96) dM_seek_62 (by decide) (by first | omega | (simp only [mo_uz_1, mo_uz_2, mo_uf_1, mo_uf_2, mo_uf_22, mo_ug_1, mo_ug_2, mo_ug_22, mo_len, Nat.reduceEqDiff, false_and, true_and, and_true, and_false, if_false, if_true, reduceIte, ite_true, ite_false, ne_eq, not_true_eq_false, not_false_eq_true, mo_ff_l, mo_ff_f, mo_ff_2, mo_ff_12, mo_ff_24] at *; omega)) (by first | omega | (simp only [mo_uz_1, mo_uz_2, mo_uf_1, mo_uf_2, mo_uf_22, mo_ug_1, mo_ug_2, mo_ug_22, mo_len, Nat.reduceEqDiff, false_and, true_and, and_true, and_false, if_false, if_true, reduceIte, ite_true, ite_false, ne_eq, not_true_eq_false, not_false_eq_true, mo_ff_l, mo_ff_f, mo_ff_2, mo_ff_12, mo_ff_24] at *; omega)) (fun hb62 => ?_) (fun hb62 => ?_)
  · refine hk i y ?_
    rcases hy with ⟨g1, g2⟩ | ⟨g1, g2⟩
    · exact Or.inl ⟨g1, fun j p1 p2 => g2 j p1 (by first | omega | (simp only [mo_uz_1, mo_uz_2, mo_uf_1, mo_uf_2, mo_uf_22, mo_ug_1, mo_ug_2, mo_ug_22, mo_len, Nat.reduceEqDiff, false_and, true_and, and_true, and_false, if_false, if_true, reduceIte, ite_true, ite_false, ne_eq, not_true_eq_false, not_false_eq_true, mo_ff_l, mo_ff_f, mo_ff_2, mo_ff_12, mo_ff_24] at *; omega))⟩
    · exact Or.inr ⟨g1, g2⟩
  · simp only [mo_ff_2] at hb62
    have hu9 := hl.2.2.2.2.1 i h0 (by omega)
    refine mw_aload_n dM_seek_65 rfl ?_
    refine mw_getI dM_seek_66 fM_157 rfl (fun hv66 => ?_)
    refine mw_if_ge (tgt := 96) dM_seek_69 (by decide) (by first | omega | (simp only [mo_uz_1, mo_uz_2, mo_uf_1, mo_uf_2, mo_uf_22, mo_ug_1, mo_ug_2, mo_ug_22, mo_len, Nat.reduceEqDiff, false_and, true_and, and_true, and_false, if_false, if_true, reduceIte, ite_true, ite_false, ne_eq, not_true_eq_false, not_false_eq_true, mo_ff_l, mo_ff_f, mo_ff_2, mo_ff_12, mo_ff_24] at *; omega)) (fun hb69 => ?_) (fun hb69 => ?_)
    · refine hk i y ?_
      rcases hy with ⟨g1, g2⟩ | ⟨g1, g2⟩
      · exact Or.inl ⟨g1, fun j p1 p2 => g2 j p1 (by first | omega | (simp only [mo_uz_1, mo_uz_2, mo_uf_1, mo_uf_2, mo_uf_22, mo_ug_1, mo_ug_2, mo_ug_22, mo_len, Nat.reduceEqDiff, false_and, true_and, and_true, and_false, if_false, if_true, reduceIte, ite_true, ite_false, ne_eq, not_true_eq_false, not_false_eq_true, mo_ff_l, mo_ff_f, mo_ff_2, mo_ff_12, mo_ff_24] at *; omega))⟩
      · exact Or.inr ⟨g1, g2⟩
    · refine mw_aload_n dM_seek_72 rfl ?_
      refine mw_aload_n dM_seek_73 rfl ?_
      refine mw_bipush dM_seek_74 (by decide +kernel) ?_
      refine mw_iconst dM_seek_76 ?_
      refine mw_iload_n dM_seek_77 rfl ?_
      refine mw_imul dM_seek_78 ?_
      refine mw_iadd dM_seek_79 ?_
      refine mw_iload dM_seek_80 rfl ?_
      refine mw_iadd dM_seek_82 ?_
      refine mw_iload_n dM_seek_83 rfl ?_
      refine mw_callV2 dM_seek_84 cM_114 (Nat.le_of_ble_eq_true rfl) (Nat.le_of_ble_eq_true rfl) rfl ?_
      refine mo_fileOf (by first | omega | (simp only [mo_uz_1, mo_uz_2, mo_uf_1, mo_uf_2, mo_uf_22, mo_ug_1, mo_ug_2, mo_ug_22, mo_len, Nat.reduceEqDiff, false_and, true_and, and_true, and_false, if_false, if_true, reduceIte, ite_true, ite_false, ne_eq, not_true_eq_false, not_false_eq_true, mo_ff_l, mo_ff_f, mo_ff_2, mo_ff_12, mo_ff_24] at *; omega)) hm hu9.1 (fun r hr => ?_)
      have hr : mo_lm (fun j => s.2.1 2 (24 * (10 + 4 * l + i) + 3 * j) = m) (fun k => 24 * (10 + 4 * l + i) + 3 * k) (s.2.1 1 (10 + 4 * l + i)) r := hr
      have hu8 : 0 ≤ s.2.1 1 (10 + 4 * l + i) ∧ s.2.1 1 (10 + 4 * l + i) ≤ 8 := hu9.1
      have hrb : -1 ≤ r ∧ r ≤ 4173 := by
        rcases hr with ⟨q1, q2⟩ | ⟨k, q1, q2, q3, q4, q5⟩
        · omega
        · have q1 : r = 24 * (10 + 4 * l + i) + 3 * k := q1
          omega
      refine mw_putI dM_seek_87 sM_157 (by decide) rfl (by first | omega | (simp only [mo_uz_1, mo_uz_2, mo_uf_1, mo_uf_2, mo_uf_22, mo_ug_1, mo_ug_2, mo_ug_22, mo_len, Nat.reduceEqDiff, false_and, true_and, and_true, and_false, if_false, if_true, reduceIte, ite_true, ite_false, ne_eq, not_true_eq_false, not_false_eq_true, mo_ff_l, mo_ff_f, mo_ff_2, mo_ff_12, mo_ff_24] at *; omega)) ?_
      rw [mo_ff_30]
      refine mw_iinc dM_seek_90 rfl (by decide) rfl ?_
      refine mw_goto (tgt := 54) dM_seek_93 (by decide) ?_
      refine ih (by omega) (by omega) _ ?_
      rcases hy with ⟨g1, g2⟩ | ⟨g1, g2⟩
      · rcases hr with ⟨q1, q2⟩ | ⟨k, q1, q2, q3, q4, q5⟩
        · refine Or.inl ⟨by omega, fun j p1 p2 => ?_⟩
          by_cases e : j = i
          · subst e; exact q2
          · exact g2 j p1 (by omega)
        · have q1 : r = 24 * (10 + 4 * l + i) + 3 * k := q1
          have q4 : s.2.1 2 (24 * (10 + 4 * l + i) + 3 * k) = m := q4
          exact Or.inr ⟨by omega, i, k, ⟨h0, by first | omega | (simp only [mo_uz_1, mo_uz_2, mo_uf_1, mo_uf_2, mo_uf_22, mo_ug_1, mo_ug_2, mo_ug_22, mo_len, Nat.reduceEqDiff, false_and, true_and, and_true, and_false, if_false, if_true, reduceIte, ite_true, ite_false, ne_eq, not_true_eq_false, not_false_eq_true, mo_ff_l, mo_ff_f, mo_ff_2, mo_ff_12, mo_ff_24] at *; omega)⟩, g2, ⟨q2, q3⟩, q1, q4⟩
      · exfalso
        first | omega | (simp only [mo_uz_1, mo_uz_2, mo_uf_1, mo_uf_2, mo_uf_22, mo_ug_1, mo_ug_2, mo_ug_22, mo_len, Nat.reduceEqDiff, false_and, true_and, and_true, and_false, if_false, if_true, reduceIte, ite_true, ite_false, ne_eq, not_true_eq_false, not_false_eq_true, mo_ff_l, mo_ff_f, mo_ff_2, mo_ff_12, mo_ff_24] at *; omega)
theorem mo_seek_e {l0 m : Int} {x3 x4 : Option Value} (h1 : 0 ≤ s.1 30 → Q (.inl (some (.int (iI 1)))) s) (h0 : s.1 30 < 0 → Q (.inl (some (.int (iI 0)))) s) : mw G b ad mM_seek d Q 122 [some (.ref b), some (.int (iI l0)), some (.int (iI m)), x3, x4] [] s kc ks := by
  refine mw_aload_n dM_seek_122 rfl ?_
  refine mw_getI dM_seek_123 fM_157 rfl (fun hv123 => ?_)
  refine mw_if_lt (tgt := 133) dM_seek_126 (by decide) (by first | omega | (simp only [mo_uz_1, mo_uz_2, mo_uf_1, mo_uf_2, mo_uf_22, mo_ug_1, mo_ug_2, mo_ug_22, mo_len, Nat.reduceEqDiff, false_and, true_and, and_true, and_false, if_false, if_true, reduceIte, ite_true, ite_false, ne_eq, not_true_eq_false, not_false_eq_true, mo_ff_l, mo_ff_f, mo_ff_2, mo_ff_12, mo_ff_24] at *; omega)) (fun hb126 => ?_) (fun hb126 => ?_)
  · refine mw_iconst dM_seek_133 ?_
    refine mw_zret dM_seek_134 rfl (by first | omega | (simp only [mo_uz_1, mo_uz_2, mo_uf_1, mo_uf_2, mo_uf_22, mo_ug_1, mo_ug_2, mo_ug_22, mo_len, Nat.reduceEqDiff, false_and, true_and, and_true, and_false, if_false, if_true, reduceIte, ite_true, ite_false, ne_eq, not_true_eq_false, not_false_eq_true, mo_ff_l, mo_ff_f, mo_ff_2, mo_ff_12, mo_ff_24] at *; omega)) ?_
    first | exact h1 (by first | omega | (simp only [mo_uz_1, mo_uz_2, mo_uf_1, mo_uf_2, mo_uf_22, mo_ug_1, mo_ug_2, mo_ug_22, mo_len, Nat.reduceEqDiff, false_and, true_and, and_true, and_false, if_false, if_true, reduceIte, ite_true, ite_false, ne_eq, not_true_eq_false, not_false_eq_true, mo_ff_l, mo_ff_f, mo_ff_2, mo_ff_12, mo_ff_24] at *; omega)) | exact h0 (by first | omega | (simp only [mo_uz_1, mo_uz_2, mo_uf_1, mo_uf_2, mo_uf_22, mo_ug_1, mo_ug_2, mo_ug_22, mo_len, Nat.reduceEqDiff, false_and, true_and, and_true, and_false, if_false, if_true, reduceIte, ite_true, ite_false, ne_eq, not_true_eq_false, not_false_eq_true, mo_ff_l, mo_ff_f, mo_ff_2, mo_ff_12, mo_ff_24] at *; omega))
  · refine mw_iconst dM_seek_129 ?_
    refine mw_goto (tgt := 134) dM_seek_130 (by decide) ?_
    refine mw_zret dM_seek_134 rfl (by first | omega | (simp only [mo_uz_1, mo_uz_2, mo_uf_1, mo_uf_2, mo_uf_22, mo_ug_1, mo_ug_2, mo_ug_22, mo_len, Nat.reduceEqDiff, false_and, true_and, and_true, and_false, if_false, if_true, reduceIte, ite_true, ite_false, ne_eq, not_true_eq_false, not_false_eq_true, mo_ff_l, mo_ff_f, mo_ff_2, mo_ff_12, mo_ff_24] at *; omega)) ?_
    first | exact h1 (by first | omega | (simp only [mo_uz_1, mo_uz_2, mo_uf_1, mo_uf_2, mo_uf_22, mo_ug_1, mo_ug_2, mo_ug_22, mo_len, Nat.reduceEqDiff, false_and, true_and, and_true, and_false, if_false, if_true, reduceIte, ite_true, ite_false, ne_eq, not_true_eq_false, not_false_eq_true, mo_ff_l, mo_ff_f, mo_ff_2, mo_ff_12, mo_ff_24] at *; omega)) | exact h0 (by first | omega | (simp only [mo_uz_1, mo_uz_2, mo_uf_1, mo_uf_2, mo_uf_22, mo_ug_1, mo_ug_2, mo_ug_22, mo_len, Nat.reduceEqDiff, false_and, true_and, and_true, and_false, if_false, if_true, reduceIte, ite_true, ite_false, ne_eq, not_true_eq_false, not_false_eq_true, mo_ff_l, mo_ff_f, mo_ff_2, mo_ff_12, mo_ff_24] at *; omega))
theorem mo_seek_0 {l0 m l x y : Int} {x4 : Option Value} (hl : l = 0) (hy : y < 0) (h0 : Q (.inl (some (.int (iI 0)))) (mo_ff s x y)) : mw G b ad mM_seek d Q 7 [some (.ref b), some (.int (iI l0)), some (.int (iI m)), some (.int (iI l)), x4] [] (mo_ff s x y) kc ks := by
  refine mw_iload_n dM_seek_7 rfl ?_
  refine mw_if_le (tgt := 122) dM_seek_8 (by decide) (by first | omega | (simp only [mo_uz_1, mo_uz_2, mo_uf_1, mo_uf_2, mo_uf_22, mo_ug_1, mo_ug_2, mo_ug_22, mo_len, Nat.reduceEqDiff, false_and, true_and, and_true, and_false, if_false, if_true, reduceIte, ite_true, ite_false, ne_eq, not_true_eq_false, not_false_eq_true, mo_ff_l, mo_ff_f, mo_ff_2, mo_ff_12, mo_ff_24] at *; omega)) (fun hb8 => ?_) (fun hb8 => absurd hb8 (by first | omega | (simp only [mo_uz_1, mo_uz_2, mo_uf_1, mo_uf_2, mo_uf_22, mo_ug_1, mo_ug_2, mo_ug_22, mo_len, Nat.reduceEqDiff, false_and, true_and, and_true, and_false, if_false, if_true, reduceIte, ite_true, ite_false, ne_eq, not_true_eq_false, not_false_eq_true, mo_ff_l, mo_ff_f, mo_ff_2, mo_ff_12, mo_ff_24] at *; omega)))
  exact mo_seek_e (fun e => by have e : 0 ≤ y := e; omega) (fun _ => h0)
theorem mo_seek_y {l0 m l x y : Int} {x4 : Option Value} (hl : 1 ≤ l ∧ l ≤ 40) (hy : 0 ≤ y) (h1 : Q (.inl (some (.int (iI 1)))) (mo_ff s x y)) : mw G b ad mM_seek d Q 7 [some (.ref b), some (.int (iI l0)), some (.int (iI m)), some (.int (iI l)), x4] [] (mo_ff s x y) kc ks := by
  refine mw_gb (fun hzb _ => ?_)
  have hyb : iB y := hzb 30
  refine mw_iload_n dM_seek_7 rfl ?_
  refine mw_if_le (tgt := 122) dM_seek_8 (by decide) (by first | omega | (simp only [mo_uz_1, mo_uz_2, mo_uf_1, mo_uf_2, mo_uf_22, mo_ug_1, mo_ug_2, mo_ug_22, mo_len, Nat.reduceEqDiff, false_and, true_and, and_true, and_false, if_false, if_true, reduceIte, ite_true, ite_false, ne_eq, not_true_eq_false, not_false_eq_true, mo_ff_l, mo_ff_f, mo_ff_2, mo_ff_12, mo_ff_24] at *; omega)) (fun hb8 => absurd hb8 (by first | omega | (simp only [mo_uz_1, mo_uz_2, mo_uf_1, mo_uf_2, mo_uf_22, mo_ug_1, mo_ug_2, mo_ug_22, mo_len, Nat.reduceEqDiff, false_and, true_and, and_true, and_false, if_false, if_true, reduceIte, ite_true, ite_false, ne_eq, not_true_eq_false, not_false_eq_true, mo_ff_l, mo_ff_f, mo_ff_2, mo_ff_12, mo_ff_24] at *; omega))) (fun hb8 => ?_)
  refine mw_aload_n dM_seek_11 rfl ?_
  refine mw_getI dM_seek_12 fM_157 rfl (fun hv12 => ?_)
  refine mw_if_ge (tgt := 122) dM_seek_15 (by decide) (by first | omega | (simp only [mo_uz_1, mo_uz_2, mo_uf_1, mo_uf_2, mo_uf_22, mo_ug_1, mo_ug_2, mo_ug_22, mo_len, Nat.reduceEqDiff, false_and, true_and, and_true, and_false, if_false, if_true, reduceIte, ite_true, ite_false, ne_eq, not_true_eq_false, not_false_eq_true, mo_ff_l, mo_ff_f, mo_ff_2, mo_ff_12, mo_ff_24] at *; omega)) (fun hb15 => ?_) (fun hb15 => absurd hb15 (by first | omega | (simp only [mo_uz_1, mo_uz_2, mo_uf_1, mo_uf_2, mo_uf_22, mo_ug_1, mo_ug_2, mo_ug_22, mo_len, Nat.reduceEqDiff, false_and, true_and, and_true, and_false, if_false, if_true, reduceIte, ite_true, ite_false, ne_eq, not_true_eq_false, not_false_eq_true, mo_ff_l, mo_ff_f, mo_ff_2, mo_ff_12, mo_ff_24] at *; omega)))
  exact mo_seek_e (fun _ => h1) (fun e => by have e : y < 0 := e; omega)
theorem mo_seek_g {l0 m l x y : Int} {x4 : Option Value} (hl : mo_ldr s.2 l) (hy : (y < 0 ∧ mo_nfl s.2 l m) ∨ (0 ≤ y ∧ mo_fl s.2 l m y)) (hup : y < 0 → mo_nfl s.2 l m → mw G b ad mM_seek d Q 7 [some (.ref b), some (.int (iI l0)), some (.int (iI m)), some (.int (iI (s.2.1 7 l))), x4] [] (mo_ff s l y) kc ks) (hfd : 0 ≤ y → mo_fl s.2 l m y → Q (.inl (some (.int (iI 1)))) (mo_ff s l y)) : mw G b ad mM_seek d Q 96 [some (.ref b), some (.int (iI l0)), some (.int (iI m)), some (.int (iI l)), x4] [] (mo_ff s x y) kc ks := by
  have hl1 := hl.1
  refine mw_gb (fun hzb _ => ?_)
  have hyb : iB y := hzb 30
  refine mw_aload_n dM_seek_96 rfl ?_
  refine mw_iload_n dM_seek_97 rfl ?_
  refine mw_putI dM_seek_98 sM_163 (by decide) rfl (by first | omega | (simp only [mo_uz_1, mo_uz_2, mo_uf_1, mo_uf_2, mo_uf_22, mo_ug_1, mo_ug_2, mo_ug_22, mo_len, Nat.reduceEqDiff, false_and, true_and, and_true, and_false, if_false, if_true, reduceIte, ite_true, ite_false, ne_eq, not_true_eq_false, not_false_eq_true, mo_ff_l, mo_ff_f, mo_ff_2, mo_ff_12, mo_ff_24] at *; omega)) ?_
  rw [mo_ff_29]
  refine mw_aload_n dM_seek_101 rfl ?_
  refine mw_getI dM_seek_102 fM_157 rfl (fun hv102 => ?_)
  refine mw_if_ge (tgt := 117) dM_seek_105 (by decide) (by first | omega | (simp only [mo_uz_1, mo_uz_2, mo_uf_1, mo_uf_2, mo_uf_22, mo_ug_1, mo_ug_2, mo_ug_22, mo_len, Nat.reduceEqDiff, false_and, true_and, and_true, and_false, if_false, if_true, reduceIte, ite_true, ite_false, ne_eq, not_true_eq_false, not_false_eq_true, mo_ff_l, mo_ff_f, mo_ff_2, mo_ff_12, mo_ff_24] at *; omega)) (fun hb105 => ?_) (fun hb105 => ?_)
  · refine mw_iload_n dM_seek_117 rfl ?_
    refine mw_istore_n dM_seek_118 (by decide) rfl ?_
    refine mw_goto (tgt := 7) dM_seek_119 (by decide) ?_
    rcases hy with ⟨g1, g2⟩ | ⟨g1, g2⟩
    · first | exact hup g1 g2 | (exfalso; simp only [mo_ff_f] at *; omega)
    · first | exact mo_seek_y hl1 g1 (hfd g1 g2) | (exfalso; simp only [mo_ff_f] at *; omega)
  · refine mw_aload_n dM_seek_108 rfl ?_
    refine mw_get dM_seek_109 fM_29 rfl ?_
    refine mw_iload_n dM_seek_112 rfl ?_
    refine mw_iald dM_seek_113 rfl rfl (by first | omega | (simp only [mo_uz_1, mo_uz_2, mo_uf_1, mo_uf_2, mo_uf_22, mo_ug_1, mo_ug_2, mo_ug_22, mo_len, Nat.reduceEqDiff, false_and, true_and, and_true, and_false, if_false, if_true, reduceIte, ite_true, ite_false, ne_eq, not_true_eq_false, not_false_eq_true, mo_ff_l, mo_ff_f, mo_ff_2, mo_ff_12, mo_ff_24] at *; omega)) (by first | omega | (simp only [mo_uz_1, mo_uz_2, mo_uf_1, mo_uf_2, mo_uf_22, mo_ug_1, mo_ug_2, mo_ug_22, mo_len, Nat.reduceEqDiff, false_and, true_and, and_true, and_false, if_false, if_true, reduceIte, ite_true, ite_false, ne_eq, not_true_eq_false, not_false_eq_true, mo_ff_l, mo_ff_f, mo_ff_2, mo_ff_12, mo_ff_24] at *; omega)) (fun hv113 => ?_)
    refine mw_goto (tgt := 118) dM_seek_114 (by decide) ?_
    refine mw_istore_n dM_seek_118 (by decide) rfl ?_
    refine mw_goto (tgt := 7) dM_seek_119 (by decide) ?_
    rcases hy with ⟨g1, g2⟩ | ⟨g1, g2⟩
    · first | exact hup g1 g2 | (exfalso; simp only [mo_ff_f] at *; omega)
    · first | exact mo_seek_y hl1 g1 (hfd g1 g2) | (exfalso; simp only [mo_ff_f] at *; omega)
theorem mo_seek_l {l0 m : Int} (hm : iB m) : ∀ n l r x y x4, mo_chn s.2 n l → mo_sr s.2 m n l r → y < 0 → (r = none → ∀ x y, y < 0 → Q (.inl (some (.int (iI 0)))) (mo_ff s x y)) → (∀ l' f, r = some (l', f) → Q (.inl (some (.int (iI 1)))) (mo_ff s l' f)) → mw G b ad mM_seek (d + 1) Q 7 [some (.ref b), some (.int (iI l0)), some (.int (iI m)), some (.int (iI l)), x4] [] (mo_ff s x y) kc ks := by
  intro n
  induction n with
  | zero => exact fun l r x y x4 hc hr hy hn hs => mo_seek_0 hc hy (hn hr x y hy)
  | succ n ih =>
    intro l r x y x4 hc hr hy hn hs
    rcases hc with hc | ⟨hl, hch⟩
    · rcases hr with ⟨_, e⟩ | ⟨e, _⟩
      · exact mo_seek_0 hc hy (hn e x y hy)
      · omega
    · have hl1 := hl.1
      refine mw_gb (fun hzb _ => ?_)
      have hyb : iB y := hzb 30
      refine mw_iload_n dM_seek_7 rfl ?_
      refine mw_if_le (tgt := 122) dM_seek_8 (by decide) (by first | omega | (simp only [mo_uz_1, mo_uz_2, mo_uf_1, mo_uf_2, mo_uf_22, mo_ug_1, mo_ug_2, mo_ug_22, mo_len, Nat.reduceEqDiff, false_and, true_and, and_true, and_false, if_false, if_true, reduceIte, ite_true, ite_false, ne_eq, not_true_eq_false, not_false_eq_true, mo_ff_l, mo_ff_f, mo_ff_2, mo_ff_12, mo_ff_24] at *; omega)) (fun hb8 => absurd hb8 (by first | omega | (simp only [mo_uz_1, mo_uz_2, mo_uf_1, mo_uf_2, mo_uf_22, mo_ug_1, mo_ug_2, mo_ug_22, mo_len, Nat.reduceEqDiff, false_and, true_and, and_true, and_false, if_false, if_true, reduceIte, ite_true, ite_false, ne_eq, not_true_eq_false, not_false_eq_true, mo_ff_l, mo_ff_f, mo_ff_2, mo_ff_12, mo_ff_24] at *; omega))) (fun hb8 => ?_)
      refine mw_aload_n dM_seek_11 rfl ?_
      refine mw_getI dM_seek_12 fM_157 rfl (fun hv12 => ?_)
      refine mw_if_ge (tgt := 122) dM_seek_15 (by decide) (by first | omega | (simp only [mo_uz_1, mo_uz_2, mo_uf_1, mo_uf_2, mo_uf_22, mo_ug_1, mo_ug_2, mo_ug_22, mo_len, Nat.reduceEqDiff, false_and, true_and, and_true, and_false, if_false, if_true, reduceIte, ite_true, ite_false, ne_eq, not_true_eq_false, not_false_eq_true, mo_ff_l, mo_ff_f, mo_ff_2, mo_ff_12, mo_ff_24] at *; omega)) (fun hb15 => absurd hb15 (by first | omega | (simp only [mo_uz_1, mo_uz_2, mo_uf_1, mo_uf_2, mo_uf_22, mo_ug_1, mo_ug_2, mo_ug_22, mo_len, Nat.reduceEqDiff, false_and, true_and, and_true, and_false, if_false, if_true, reduceIte, ite_true, ite_false, ne_eq, not_true_eq_false, not_false_eq_true, mo_ff_l, mo_ff_f, mo_ff_2, mo_ff_12, mo_ff_24] at *; omega))) (fun hb15 => ?_)
      refine mw_aload_n dM_seek_18 rfl ?_
      refine mw_get dM_seek_19 fM_26 rfl ?_
      refine mw_iload_n dM_seek_22 rfl ?_
      refine mw_iald dM_seek_23 rfl rfl (by first | omega | (simp only [mo_uz_1, mo_uz_2, mo_uf_1, mo_uf_2, mo_uf_22, mo_ug_1, mo_ug_2, mo_ug_22, mo_len, Nat.reduceEqDiff, false_and, true_and, and_true, and_false, if_false, if_true, reduceIte, ite_true, ite_false, ne_eq, not_true_eq_false, not_false_eq_true, mo_ff_l, mo_ff_f, mo_ff_2, mo_ff_12, mo_ff_24] at *; omega)) (by first | omega | (simp only [mo_uz_1, mo_uz_2, mo_uf_1, mo_uf_2, mo_uf_22, mo_ug_1, mo_ug_2, mo_ug_22, mo_len, Nat.reduceEqDiff, false_and, true_and, and_true, and_false, if_false, if_true, reduceIte, ite_true, ite_false, ne_eq, not_true_eq_false, not_false_eq_true, mo_ff_l, mo_ff_f, mo_ff_2, mo_ff_12, mo_ff_24] at *; omega)) (fun hv23 => ?_)
      refine mw_iconst dM_seek_24 ?_
      refine mw_icmp_ne (tgt := 51) dM_seek_25 (by decide) (by first | omega | (simp only [mo_uz_1, mo_uz_2, mo_uf_1, mo_uf_2, mo_uf_22, mo_ug_1, mo_ug_2, mo_ug_22, mo_len, Nat.reduceEqDiff, false_and, true_and, and_true, and_false, if_false, if_true, reduceIte, ite_true, ite_false, ne_eq, not_true_eq_false, not_false_eq_true, mo_ff_l, mo_ff_f, mo_ff_2, mo_ff_12, mo_ff_24] at *; omega)) (by first | omega | (simp only [mo_uz_1, mo_uz_2, mo_uf_1, mo_uf_2, mo_uf_22, mo_ug_1, mo_ug_2, mo_ug_22, mo_len, Nat.reduceEqDiff, false_and, true_and, and_true, and_false, if_false, if_true, reduceIte, ite_true, ite_false, ne_eq, not_true_eq_false, not_false_eq_true, mo_ff_l, mo_ff_f, mo_ff_2, mo_ff_12, mo_ff_24] at *; omega)) (fun hb25 => ?_) (fun hb25 => ?_)
      · have hk6 : ¬ s.2.1 6 l = 2 := by first | omega | (simp only [mo_uz_1, mo_uz_2, mo_uf_1, mo_uf_2, mo_uf_22, mo_ug_1, mo_ug_2, mo_ug_22, mo_len, Nat.reduceEqDiff, false_and, true_and, and_true, and_false, if_false, if_true, reduceIte, ite_true, ite_false, ne_eq, not_true_eq_false, not_false_eq_true, mo_ff_l, mo_ff_f, mo_ff_2, mo_ff_12, mo_ff_24] at *; omega)
        refine mw_iconst dM_seek_51 ?_
        refine mw_istore dM_seek_52 (by decide) rfl ?_
        refine mo_seek_f hl hm (fun i y' hy' => mo_seek_g hl hy' (fun p1 p2 => ?_) (fun p1 p2 => ?_)) 0 hl.2.2.1.1 (by decide) y (Or.inl ⟨hy, fun j p1 p2 => absurd p2 (by omega)⟩)
        · rcases hr with ⟨e, _⟩ | ⟨_, ⟨k2, hr⟩ | ⟨k2, ⟨f, e, hf⟩ | ⟨hno, hr⟩⟩⟩
          · omega
          · exact absurd k2 hk6
          · exact (mo_fl_nf hf p2).elim
          · exact ih _ r _ y' _ hch hr p1 hn hs
        · rcases hr with ⟨e, _⟩ | ⟨_, ⟨k2, hr⟩ | ⟨k2, ⟨f, e, hf⟩ | ⟨hno, hr⟩⟩⟩
          · omega
          · exact absurd k2 hk6
          · have e9 := mo_fl_u hl.2.2.2.2.1 hf p2
            rw [← e9]
            exact hs l f e
          · exact (mo_fl_nf p2 hno).elim
      · have hk6 : s.2.1 6 l = 2 := by first | omega | (simp only [mo_uz_1, mo_uz_2, mo_uf_1, mo_uf_2, mo_uf_22, mo_ug_1, mo_ug_2, mo_ug_22, mo_len, Nat.reduceEqDiff, false_and, true_and, and_true, and_false, if_false, if_true, reduceIte, ite_true, ite_false, ne_eq, not_true_eq_false, not_false_eq_true, mo_ff_l, mo_ff_f, mo_ff_2, mo_ff_12, mo_ff_24] at *; omega)
        refine mw_aload_n dM_seek_28 rfl ?_
        refine mw_iload_n dM_seek_29 rfl ?_
        refine mw_iload_n dM_seek_30 rfl ?_
        refine mw_callV2 dM_seek_31 cM_160 (Nat.le_of_ble_eq_true rfl) (Nat.le_of_ble_eq_true rfl) rfl ?_
        refine mo_admits (by first | omega | (simp only [mo_uz_1, mo_uz_2, mo_uf_1, mo_uf_2, mo_uf_22, mo_ug_1, mo_ug_2, mo_ug_22, mo_len, Nat.reduceEqDiff, false_and, true_and, and_true, and_false, if_false, if_true, reduceIte, ite_true, ite_false, ne_eq, not_true_eq_false, not_false_eq_true, mo_ff_l, mo_ff_f, mo_ff_2, mo_ff_12, mo_ff_24] at *; omega)) hm (fun ha => ?_) (fun ha => ?_)
        · have ha : mo_adm (mo_s0 s.2) l m := ha
          refine mw_if_eq (tgt := 46) dM_seek_34 (by decide) (by first | omega | (simp only [mo_uz_1, mo_uz_2, mo_uf_1, mo_uf_2, mo_uf_22, mo_ug_1, mo_ug_2, mo_ug_22, mo_len, Nat.reduceEqDiff, false_and, true_and, and_true, and_false, if_false, if_true, reduceIte, ite_true, ite_false, ne_eq, not_true_eq_false, not_false_eq_true, mo_ff_l, mo_ff_f, mo_ff_2, mo_ff_12, mo_ff_24] at *; omega)) (fun hb34 => absurd hb34 (by decide)) (fun _ => ?_)
          refine mw_aload_n dM_seek_37 rfl ?_
          refine mw_get dM_seek_38 fM_29 rfl ?_
          refine mw_iload_n dM_seek_41 rfl ?_
          refine mw_iald dM_seek_42 rfl rfl (by first | omega | (simp only [mo_uz_1, mo_uz_2, mo_uf_1, mo_uf_2, mo_uf_22, mo_ug_1, mo_ug_2, mo_ug_22, mo_len, Nat.reduceEqDiff, false_and, true_and, and_true, and_false, if_false, if_true, reduceIte, ite_true, ite_false, ne_eq, not_true_eq_false, not_false_eq_true, mo_ff_l, mo_ff_f, mo_ff_2, mo_ff_12, mo_ff_24] at *; omega)) (by first | omega | (simp only [mo_uz_1, mo_uz_2, mo_uf_1, mo_uf_2, mo_uf_22, mo_ug_1, mo_ug_2, mo_ug_22, mo_len, Nat.reduceEqDiff, false_and, true_and, and_true, and_false, if_false, if_true, reduceIte, ite_true, ite_false, ne_eq, not_true_eq_false, not_false_eq_true, mo_ff_l, mo_ff_f, mo_ff_2, mo_ff_12, mo_ff_24] at *; omega)) (fun hv42 => ?_)
          refine mw_goto (tgt := 47) dM_seek_43 (by decide) ?_
          refine mw_istore_n dM_seek_47 (by decide) rfl ?_
          refine mw_goto (tgt := 7) dM_seek_48 (by decide) ?_
          rcases hr with ⟨e, _⟩ | ⟨_, ⟨k2, ⟨na, e⟩ | ⟨a, hr⟩⟩ | ⟨k2, hr⟩⟩
          · omega
          · first | exact absurd ha na | exact mo_seek_0 rfl hy (hn e _ _ hy)
          · first | exact absurd a ha | exact ih _ r x y _ hch hr hy hn hs
          · exact absurd hk6 k2
        · have ha : ¬ mo_adm (mo_s0 s.2) l m := ha
          refine mw_if_eq (tgt := 46) dM_seek_34 (by decide) (by first | omega | (simp only [mo_uz_1, mo_uz_2, mo_uf_1, mo_uf_2, mo_uf_22, mo_ug_1, mo_ug_2, mo_ug_22, mo_len, Nat.reduceEqDiff, false_and, true_and, and_true, and_false, if_false, if_true, reduceIte, ite_true, ite_false, ne_eq, not_true_eq_false, not_false_eq_true, mo_ff_l, mo_ff_f, mo_ff_2, mo_ff_12, mo_ff_24] at *; omega)) (fun _ => ?_) (fun hb34 => absurd hb34 (by decide))
          refine mw_iconst dM_seek_46 ?_
          refine mw_istore_n dM_seek_47 (by decide) rfl ?_
          refine mw_goto (tgt := 7) dM_seek_48 (by decide) ?_
          rcases hr with ⟨e, _⟩ | ⟨_, ⟨k2, ⟨na, e⟩ | ⟨a, hr⟩⟩ | ⟨k2, hr⟩⟩
          · omega
          · first | exact absurd ha na | exact mo_seek_0 rfl hy (hn e _ _ hy)
          · first | exact absurd a ha | exact ih _ r x y _ hch hr hy hn hs
          · exact absurd hk6 k2
theorem mo_seek {l m : Int} {n : Nat} {r : Option (Int × Int)} (hm : iB m) (hc : mo_chn s.2 n l) (hr : mo_sr s.2 m n l r) (hn : r = none → ∀ x y, Q (.inl (some (.int (iI 0)))) (mo_ff s x y)) (hs : ∀ l' f, r = some (l', f) → Q (.inl (some (.int (iI 1)))) (mo_ff s l' f)) : mw G b ad mM_seek (d + 1) Q 0 [some (.ref b), some (.int (iI l)), some (.int (iI m)), none, none] [] s kc ks := by
  refine mw_iload_n dM_seek_0 rfl ?_
  refine mw_istore_n dM_seek_1 (by decide) rfl ?_
  refine mw_aload_n dM_seek_2 rfl ?_
  refine mw_iconst dM_seek_3 ?_
  refine mw_putI dM_seek_4 sM_157 (by decide) rfl (by first | omega | (simp only [mo_uz_1, mo_uz_2, mo_uf_1, mo_uf_2, mo_uf_22, mo_ug_1, mo_ug_2, mo_ug_22, mo_len, Nat.reduceEqDiff, false_and, true_and, and_true, and_false, if_false, if_true, reduceIte, ite_true, ite_false, ne_eq, not_true_eq_false, not_false_eq_true, mo_ff_l, mo_ff_f, mo_ff_2, mo_ff_12, mo_ff_24] at *; omega)) ?_
  rw [mo_ff_b]
  exact mo_seek_l hm n l r _ _ _ hc hr (by decide) (fun e x y _ => hn e x y) hs
end MO7
