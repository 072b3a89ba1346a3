/-! the reference: resolve -/
section MO8
variable {G : aw_G} {b : Nat} {ad : Nat → Nat} {d : Nat} {Q : aw_O → mo_S → Prop} {s : mo_S} {kc ks : Nat}
/-- two states that agree in sheets and loaders -/
def mo_tq (t t' : mo_T) : Prop := (∀ k, k ≤ 9 → t.1 k = t'.1 k) ∧ t.2 = t'.2
theorem mo_nf_cg {t t' : mo_T} (h : mo_tq t t') : mo_nf t = mo_nf t' := by
  funext y n
  simp only [mo_nf, h.1 1 (by decide), h.1 2 (by decide)]
theorem mo_nfl_cg {t t' : mo_T} (h : mo_tq t t') : mo_nfl t = mo_nfl t' := by
  funext y n
  simp only [mo_nfl, mo_nf_cg h, h.1 8 (by decide)]
theorem mo_fl_cg {t t' : mo_T} (h : mo_tq t t') : mo_fl t = mo_fl t' := by
  funext l n f
  simp only [mo_fl, mo_nf_cg h, h.1 1 (by decide), h.1 2 (by decide), h.1 8 (by decide)]
theorem mo_uq_cg {t t' : mo_T} (h : mo_tq t t') : mo_uq (mo_s0 t) = mo_uq (mo_s0 t') := by
  funext y
  simp only [mo_uq, mo_s0, h.1 1 (by decide), h.1 2 (by decide), h.1 3 (by decide), h.1 4 (by decide)]
theorem mo_nr_cg {t t' : mo_T} (h : mo_tq t t') : mo_nr t = mo_nr t' := by
  funext y
  simp only [mo_nr, h.1 1 (by decide), h.1 2 (by decide)]
theorem mo_adm_cg {t t' : mo_T} (h : mo_tq t t') : mo_adm (mo_s0 t) = mo_adm (mo_s0 t') := by
  funext l m
  simp only [mo_adm, mo_s0, h.2, h.1 9 (by decide)]
theorem mo_ldr_cg {t t' : mo_T} (h : mo_tq t t') : mo_ldr t = mo_ldr t' := by
  funext l
  simp only [mo_ldr, mo_uq_cg h, mo_nr_cg h, h.1 6 (by decide), h.1 8 (by decide)]
theorem mo_chn_cg {t t' : mo_T} (h : mo_tq t t') (n : Nat) : mo_chn t n = mo_chn t' n := by
  induction n with
  | zero => rfl
  | succ n ih =>
    funext l
    simp only [mo_chn, mo_ldr_cg h, ih, h.1 7 (by decide)]
theorem mo_sr_cg {t t' : mo_T} (h : mo_tq t t') (m : Int) (n : Nat) : mo_sr t m n = mo_sr t' m n := by
  induction n with
  | zero => rfl
  | succ n ih =>
    funext l r
    simp only [mo_sr, mo_adm_cg h, mo_fl_cg h, mo_nfl_cg h, ih, h.1 6 (by decide), h.1 7 (by decide)]
theorem mo_chn_s {t : mo_T} (n : Nat) : ∀ l, mo_chn t n l → mo_chn t (n + 1) l := by
  induction n with
  | zero => exact fun l h => Or.inl h
  | succ n ih =>
    intro l h
    rcases h with h | ⟨h, h2⟩
    · exact Or.inl h
    · exact Or.inr ⟨h, ih _ h2⟩
theorem mo_sr_c {t : mo_T} {m l' f : Int} (n : Nat) : ∀ l, mo_chn t n l → mo_sr t m n l (some (l', f)) → mo_chn t n l' ∧ mo_ldr t l' ∧ mo_fl t l' m f := by
  induction n with
  | zero => exact fun l _ h => absurd h (by intro e; cases e)
  | succ n ih =>
    intro l hc h
    rcases hc with hc | ⟨hl, hc⟩
    · rcases h with ⟨_, e⟩ | ⟨e, _⟩
      · cases e
      · exact absurd e (by omega)
    · rcases h with ⟨e, _⟩ | ⟨_, ⟨k2, ⟨na, e⟩ | ⟨a, hr⟩⟩ | ⟨k2, ⟨f', e, hf⟩ | ⟨hno, hr⟩⟩⟩
      · exact absurd hl.1.1 (by omega)
      · cases e
      · exact ⟨mo_chn_s n _ (ih _ hc hr).1, (ih _ hc hr).2⟩
      · cases e
        exact ⟨Or.inr ⟨hl, hc⟩, hl, hf⟩
      · exact ⟨mo_chn_s n _ (ih _ hc hr).1, (ih _ hc hr).2⟩
/-- c is the class of the name m that the loader l has defined -/
def mo_kn (t : mo_T) (N l m c : Int) : Prop := 8 ≤ c ∧ c < N ∧ t.1 26 c = l ∧ t.1 25 c = m
/-- no loader has defined a name twice -/
def mo_ku (t : mo_T) (N : Int) : Prop := ∀ l m c c', 0 ≤ l → mo_kn t N l m c → mo_kn t N l m c' → c = c'
abbrev mo_WL := List (Int × Int)
def mo_iw (t : mo_T) (W : mo_WL) (l m : Int) : Prop := ∃ (i : Nat) (w : Int × Int), W[i]? = some w ∧ w.1 = l ∧ t.1 2 w.2 = m
def mo_pst (t : mo_T) (N : Int) (n : Nat) (W : mo_WL) (l m : Int) (go : Int → Int → Int × mo_WL → Prop) (r : Int × mo_WL) : Prop :=
  (m < 8 ∧ r = (m, [])) ∨ (8 ≤ m ∧ mo_sr t m n l none ∧ r = (if W.length = 0 then -1 else -2, [])) ∨ ∃ l' f, 8 ≤ m ∧ mo_sr t m n l (some (l', f)) ∧ ((∃ c, mo_kn t N l' m c ∧ r = (c, [])) ∨ ((∀ c, ¬ mo_kn t N l' m c) ∧ ((mo_iw t W l' m ∧ r = (-2, [])) ∨ (¬ mo_iw t W l' m ∧ go l' f r))))
/-- what the search for a class and its supers comes to: the class found, or -1, -2; what is to be defined, first the one asked for -/
def mo_ph (t : mo_T) (N : Int) (n : Nat) : Nat → mo_WL → Int → Int → Int × mo_WL → Prop
  | 0, W, l, m, r => mo_pst t N n W l m (fun _ _ r => r = (-2, [])) r
  | k + 1, W, l, m, r => mo_pst t N n W l m (fun l' f r => ∃ r', mo_ph t N n k (W ++ [(l', f)]) l' (t.1 2 (f + 1)) r' ∧ r = (r'.1, (l', f) :: r'.2)) r
theorem mo_pst_ex {t : mo_T} {N : Int} {n : Nat} {W : mo_WL} {l m : Int} {go : Int → Int → Int × mo_WL → Prop} (hc : mo_chn t n l) (hg : ∀ l' f, mo_sr t m n l (some (l', f)) → ∃ r, go l' f r) : ∃ r, mo_pst t N n W l m go r := by
  by_cases e : m < 8
  · exact ⟨_, Or.inl ⟨e, rfl⟩⟩
  · obtain ⟨r0, h0⟩ := mo_sr_ex t m n l hc
    match r0, h0 with
    | none, h0 => exact ⟨_, Or.inr (Or.inl ⟨by omega, h0, rfl⟩)⟩
    | some (l', f), h0 =>
      by_cases e1 : ∃ c, mo_kn t N l' m c
      · obtain ⟨c, hk⟩ := e1
        exact ⟨_, Or.inr (Or.inr ⟨l', f, by omega, h0, Or.inl ⟨c, hk, rfl⟩⟩)⟩
      · by_cases e2 : mo_iw t W l' m
        · exact ⟨_, Or.inr (Or.inr ⟨l', f, by omega, h0, Or.inr ⟨fun c hk => e1 ⟨c, hk⟩, Or.inl ⟨e2, rfl⟩⟩⟩)⟩
        · obtain ⟨r, hr⟩ := hg l' f h0
          exact ⟨r, Or.inr (Or.inr ⟨l', f, by omega, h0, Or.inr ⟨fun c hk => e1 ⟨c, hk⟩, Or.inr ⟨e2, hr⟩⟩⟩)⟩
theorem mo_ph_ex {t : mo_T} {N : Int} {n : Nat} : ∀ (k : Nat) (W : mo_WL) (l m : Int), mo_chn t n l → ∃ r, mo_ph t N n k W l m r := by
  intro k
  induction k with
  | zero => exact fun W l m hc => mo_pst_ex hc (fun l' f _ => ⟨_, rfl⟩)
  | succ k ih => exact fun W l m hc => mo_pst_ex hc (fun l' f h => by
      obtain ⟨r', hr⟩ := ih (W ++ [(l', f)]) l' (t.1 2 (f + 1)) (mo_sr_c n l hc h).1
      exact ⟨_, r', hr, rfl⟩)
/-- the waiting rows -/
def mo_wq (s : mo_S) (p q : Int → Int) : mo_S := (s.1, fun k i => if k = 31 then p i else if k = 32 then q i else s.2.1 k i, s.2.2)
theorem mo_wq_1 (s : mo_S) (p q : Int → Int) : (mo_wq s p q).1 = s.1 := rfl
theorem mo_wq_31 (s : mo_S) (p q : Int → Int) (i : Int) : (mo_wq s p q).2.1 31 i = p i := rfl
theorem mo_wq_32 (s : mo_S) (p q : Int → Int) (i : Int) : (mo_wq s p q).2.1 32 i = q i := rfl
theorem mo_wq_2 (s : mo_S) (p q : Int → Int) (i : Int) : (mo_wq s p q).2.1 2 i = s.2.1 2 i := rfl
theorem mo_wq_o (s : mo_S) (p q : Int → Int) {k : Nat} (h : k ≤ 30) : (mo_wq s p q).2.1 k = s.2.1 k := by
  funext i
  show (if k = 31 then p i else if k = 32 then q i else s.2.1 k i) = s.2.1 k i
  rw [if_neg (by omega), if_neg (by omega)]
theorem mo_wq_q (s : mo_S) (p q : Int → Int) : mo_tq s.2 (mo_wq s p q).2 := ⟨fun k hk => (mo_wq_o s p q (by omega)).symm, rfl⟩
theorem mo_wq_id (s : mo_S) : s = mo_ff (mo_wq s (s.2.1 31) (s.2.1 32)) (s.1 29) (s.1 30) := by
  obtain ⟨z, g, h⟩ := s
  have e1 : mo_wq (z, g, h) (g 31) (g 32) = (z, g, h) := by
    show (z, _, h) = (z, g, h)
    congr 2
    funext k i
    show (if k = 31 then g 31 i else if k = 32 then g 32 i else g k i) = g k i
    by_cases e : k = 31
    · rw [if_pos e, e]
    · by_cases e2 : k = 32
      · rw [if_neg e, if_pos e2, e2]
      · rw [if_neg e, if_neg e2]
  show _ = mo_ff (mo_wq (z, g, h) (g 31) (g 32)) _ _
  rw [e1]
  show (z, g, h) = mo_uz (mo_uz (z, g, h) 29 (z 29)) 30 (z 30)
  have e2 : mo_uz (z, g, h) 29 (z 29) = (z, g, h) := mo_uz_id (z, g, h) 29
  rw [e2]
  exact (mo_uz_id (z, g, h) 30).symm
def mo_up1 (p : Int → Int) (i v : Int) : Int → Int := fun j => if j = i then v else p j
theorem mo_wq_s31 (s : mo_S) (p q : Int → Int) (x y i v : Int) : mo_uf (mo_ff (mo_wq s p q) x y) 31 i v = mo_ff (mo_wq s (mo_up1 p i v) q) x y := by
  obtain ⟨z, g, h⟩ := s
  show (_, _, h) = (_, _, h)
  congr 2
  funext k j
  show (if k = 31 ∧ j = i then v else if k = 31 then p j else if k = 32 then q j else g k j) = (if k = 31 then (if j = i then v else p j) else if k = 32 then q j else g k j)
  by_cases e : k = 31
  · rw [if_pos e]
    by_cases e2 : j = i
    · rw [if_pos ⟨e, e2⟩, if_pos e, if_pos e2]
    · rw [if_neg (fun z => e2 z.2), if_pos e, if_neg e2]
  · rw [if_neg (fun z => e z.1), if_neg e, if_neg e]
theorem mo_wq_s32 (s : mo_S) (p q : Int → Int) (x y i v : Int) : mo_uf (mo_ff (mo_wq s p q) x y) 32 i v = mo_ff (mo_wq s p (mo_up1 q i v)) x y := by
  obtain ⟨z, g, h⟩ := s
  show (_, _, h) = (_, _, h)
  congr 2
  funext k j
  show (if k = 32 ∧ j = i then v else if k = 31 then p j else if k = 32 then q j else g k j) = (if k = 31 then p j else if k = 32 then (if j = i then v else q j) else g k j)
  by_cases e : k = 32
  · subst e
    by_cases e2 : j = i
    · rw [if_pos ⟨rfl, e2⟩, if_neg (by decide), if_pos rfl, if_pos e2]
    · rw [if_neg (fun z => e2 z.2), if_neg (by decide), if_pos rfl, if_neg (by decide), if_pos rfl, if_neg e2]
  · rw [if_neg (fun z => e z.1), if_neg e, if_neg e]
/-- the rows p, q hold the list W, and its files are files -/
def mo_wt (W : mo_WL) (p q : Int → Int) : Prop := ∀ (i : Nat) w, W[i]? = some w → p (i : Int) = w.1 ∧ q (i : Int) = w.2 ∧ 0 ≤ w.2 ∧ w.2 ≤ 4173
theorem mo_wt_s {W : mo_WL} {p q : Int → Int} (h : mo_wt W p q) {l f : Int} (hf : 0 ≤ f ∧ f ≤ 4173) : mo_wt (W ++ [(l, f)]) (mo_up1 p W.length l) (mo_up1 q W.length f) := by
  intro i w hw
  by_cases e : i < W.length
  · rw [List.getElem?_append_left e] at hw
    have := h i w hw
    refine ⟨?_, ?_, this.2.2⟩
    · show (if (i : Int) = (W.length : Int) then l else p i) = w.1
      rw [if_neg (by omega)]; exact this.1
    · show (if (i : Int) = (W.length : Int) then f else q i) = w.2
      rw [if_neg (by omega)]; exact this.2.1
  · rw [List.getElem?_append_right (by omega)] at hw
    have e2 : i = W.length := by
      by_cases e3 : i - W.length = 0
      · omega
      · obtain ⟨j, hj⟩ : ∃ j, i - W.length = j + 1 := ⟨i - W.length - 1, by omega⟩
        rw [hj] at hw
        cases hw
    subst e2
    rw [Nat.sub_self] at hw
    cases hw
    refine ⟨?_, ?_, hf⟩
    · show (if (W.length : Int) = (W.length : Int) then l else _) = l
      rw [if_pos rfl]
    · show (if (W.length : Int) = (W.length : Int) then f else _) = f
      rw [if_pos rfl]
theorem mo_res_w {l0 m0 N m l ty : Int} (hN : 0 ≤ N ∧ N ≤ 8) (hm : iB m) (hqb : ∀ j, 0 ≤ j → j < N → 0 ≤ s.2.1 32 j ∧ s.2.1 32 j ≤ 4173) (hin : ∀ j, 0 ≤ j → j < N → s.2.1 31 j = s.1 29 → s.2.1 2 (s.2.1 32 j) = m → Q (.inl (some (.int (iI (-2))))) s) (hno : ∀ k : Int, (∀ j, 0 ≤ j → j < N → ¬ (s.2.1 31 j = s.1 29 ∧ s.2.1 2 (s.2.1 32 j) = m)) → mw G b ad mM_resolve d Q 121 [some (.ref b), some (.int (iI l0)), some (.int (iI m0)), some (.int (iI N)), some (.int (iI m)), some (.int (iI l)), some (.int (iI ty)), some (.int (iI k))] [] s kc ks) : ∀ k : Int, k ≤ N → 0 ≤ k → (∀ j, 0 ≤ j → j < k → ¬ (s.2.1 31 j = s.1 29 ∧ s.2.1 2 (s.2.1 32 j) = m)) → mw G b ad mM_resolve d Q 75 [some (.ref b), some (.int (iI l0)), some (.int (iI m0)), some (.int (iI N)), some (.int (iI m)), some (.int (iI l)), some (.int (iI ty)), some (.int (iI k))] [] s kc ks := by
  refine il_up N (fun k hk ih h0 hj => ?_)
  refine mw_iload dM_resolve_75 rfl ?_
  refine mw_iload_n dM_resolve_77 rfl ?_
  refine mw_icmp_ge (tgt := 121) dM_resolve_78 (by decide) (by first | omega | (simp only [mo_uz_1, mo_uz_2, mo_uf_1, mo_uf_2, mo_uf_22, mo_ug_1, mo_ug_2, mo_ug_22, mo_len, Nat.reduceEqDiff, false_and, true_and, and_true, and_false, if_false, if_true, reduceIte, ite_true, ite_false, ne_eq, not_true_eq_false, not_false_eq_true, mo_ff_l, mo_ff_f, mo_ff_2, mo_ff_12, mo_ff_24, mo_wq_1, mo_wq_31, mo_wq_32, mo_wq_2] at *; omega)) (by first | omega | (simp only [mo_uz_1, mo_uz_2, mo_uf_1, mo_uf_2, mo_uf_22, mo_ug_1, mo_ug_2, mo_ug_22, mo_len, Nat.reduceEqDiff, false_and, true_and, and_true, and_false, if_false, if_true, reduceIte, ite_true, ite_false, ne_eq, not_true_eq_false, not_false_eq_true, mo_ff_l, mo_ff_f, mo_ff_2, mo_ff_12, mo_ff_24, mo_wq_1, mo_wq_31, mo_wq_32, mo_wq_2] at *; omega)) (fun hb78 => ?_) (fun hb78 => ?_)
  · exact hno k (fun j q1 q2 => hj j q1 (by omega))
  · have hq9 := hqb k h0 (by omega)
    refine mw_aload_n dM_resolve_81 rfl ?_
    refine mw_get dM_resolve_82 fM_97 rfl ?_
    refine mw_iload dM_resolve_85 rfl ?_
    refine mw_iald dM_resolve_87 rfl rfl (by first | omega | (simp only [mo_uz_1, mo_uz_2, mo_uf_1, mo_uf_2, mo_uf_22, mo_ug_1, mo_ug_2, mo_ug_22, mo_len, Nat.reduceEqDiff, false_and, true_and, and_true, and_false, if_false, if_true, reduceIte, ite_true, ite_false, ne_eq, not_true_eq_false, not_false_eq_true, mo_ff_l, mo_ff_f, mo_ff_2, mo_ff_12, mo_ff_24, mo_wq_1, mo_wq_31, mo_wq_32, mo_wq_2] at *; omega)) (by first | omega | (simp only [mo_uz_1, mo_uz_2, mo_uf_1, mo_uf_2, mo_uf_22, mo_ug_1, mo_ug_2, mo_ug_22, mo_len, Nat.reduceEqDiff, false_and, true_and, and_true, and_false, if_false, if_true, reduceIte, ite_true, ite_false, ne_eq, not_true_eq_false, not_false_eq_true, mo_ff_l, mo_ff_f, mo_ff_2, mo_ff_12, mo_ff_24, mo_wq_1, mo_wq_31, mo_wq_32, mo_wq_2] at *; omega)) (fun hv87 => ?_)
    refine mw_aload_n dM_resolve_88 rfl ?_
    refine mw_getI dM_resolve_89 fM_163 rfl (fun hv89 => ?_)
    refine mw_icmp_ne (tgt := 115) dM_resolve_92 (by decide) (by first | omega | (simp only [mo_uz_1, mo_uz_2, mo_uf_1, mo_uf_2, mo_uf_22, mo_ug_1, mo_ug_2, mo_ug_22, mo_len, Nat.reduceEqDiff, false_and, true_and, and_true, and_false, if_false, if_true, reduceIte, ite_true, ite_false, ne_eq, not_true_eq_false, not_false_eq_true, mo_ff_l, mo_ff_f, mo_ff_2, mo_ff_12, mo_ff_24, mo_wq_1, mo_wq_31, mo_wq_32, mo_wq_2] at *; omega)) (by first | omega | (simp only [mo_uz_1, mo_uz_2, mo_uf_1, mo_uf_2, mo_uf_22, mo_ug_1, mo_ug_2, mo_ug_22, mo_len, Nat.reduceEqDiff, false_and, true_and, and_true, and_false, if_false, if_true, reduceIte, ite_true, ite_false, ne_eq, not_true_eq_false, not_false_eq_true, mo_ff_l, mo_ff_f, mo_ff_2, mo_ff_12, mo_ff_24, mo_wq_1, mo_wq_31, mo_wq_32, mo_wq_2] at *; omega)) (fun hb92 => ?_) (fun hb92 => ?_)
    · refine mw_iinc dM_resolve_115 rfl (by decide) rfl ?_
      refine mw_goto (tgt := 75) dM_resolve_118 (by decide) ?_
      refine ih (by omega) (by omega) (fun j q1 q2 => ?_)
      by_cases e : j = k
      · subst e; exact fun z => by omega
      · exact hj j q1 (by omega)
    · refine mw_aload_n dM_resolve_95 rfl ?_
      refine mw_get dM_resolve_96 fM_13 rfl ?_
      refine mw_aload_n dM_resolve_99 rfl ?_
      refine mw_get dM_resolve_100 fM_100 rfl ?_
      refine mw_iload dM_resolve_103 rfl ?_
      refine mw_iald dM_resolve_105 rfl rfl (by first | omega | (simp only [mo_uz_1, mo_uz_2, mo_uf_1, mo_uf_2, mo_uf_22, mo_ug_1, mo_ug_2, mo_ug_22, mo_len, Nat.reduceEqDiff, false_and, true_and, and_true, and_false, if_false, if_true, reduceIte, ite_true, ite_false, ne_eq, not_true_eq_false, not_false_eq_true, mo_ff_l, mo_ff_f, mo_ff_2, mo_ff_12, mo_ff_24, mo_wq_1, mo_wq_31, mo_wq_32, mo_wq_2] at *; omega)) (by first | omega | (simp only [mo_uz_1, mo_uz_2, mo_uf_1, mo_uf_2, mo_uf_22, mo_ug_1, mo_ug_2, mo_ug_22, mo_len, Nat.reduceEqDiff, false_and, true_and, and_true, and_false, if_false, if_true, reduceIte, ite_true, ite_false, ne_eq, not_true_eq_false, not_false_eq_true, mo_ff_l, mo_ff_f, mo_ff_2, mo_ff_12, mo_ff_24, mo_wq_1, mo_wq_31, mo_wq_32, mo_wq_2] at *; omega)) (fun hv105 => ?_)
      refine mw_iald dM_resolve_106 rfl rfl (by first | omega | (simp only [mo_uz_1, mo_uz_2, mo_uf_1, mo_uf_2, mo_uf_22, mo_ug_1, mo_ug_2, mo_ug_22, mo_len, Nat.reduceEqDiff, false_and, true_and, and_true, and_false, if_false, if_true, reduceIte, ite_true, ite_false, ne_eq, not_true_eq_false, not_false_eq_true, mo_ff_l, mo_ff_f, mo_ff_2, mo_ff_12, mo_ff_24, mo_wq_1, mo_wq_31, mo_wq_32, mo_wq_2] at *; omega)) (by first | omega | (simp only [mo_uz_1, mo_uz_2, mo_uf_1, mo_uf_2, mo_uf_22, mo_ug_1, mo_ug_2, mo_ug_22, mo_len, Nat.reduceEqDiff, false_and, true_and, and_true, and_false, if_false, if_true, reduceIte, ite_true, ite_false, ne_eq, not_true_eq_false, not_false_eq_true, mo_ff_l, mo_ff_f, mo_ff_2, mo_ff_12, mo_ff_24, mo_wq_1, mo_wq_31, mo_wq_32, mo_wq_2] at *; omega)) (fun hv106 => ?_)
      refine mw_iload dM_resolve_107 rfl ?_
      refine mw_icmp_ne (tgt := 115) dM_resolve_109 (by decide) (by first | omega | (simp only [mo_uz_1, mo_uz_2, mo_uf_1, mo_uf_2, mo_uf_22, mo_ug_1, mo_ug_2, mo_ug_22, mo_len, Nat.reduceEqDiff, false_and, true_and, and_true, and_false, if_false, if_true, reduceIte, ite_true, ite_false, ne_eq, not_true_eq_false, not_false_eq_true, mo_ff_l, mo_ff_f, mo_ff_2, mo_ff_12, mo_ff_24, mo_wq_1, mo_wq_31, mo_wq_32, mo_wq_2] at *; omega)) (by first | omega | (simp only [mo_uz_1, mo_uz_2, mo_uf_1, mo_uf_2, mo_uf_22, mo_ug_1, mo_ug_2, mo_ug_22, mo_len, Nat.reduceEqDiff, false_and, true_and, and_true, and_false, if_false, if_true, reduceIte, ite_true, ite_false, ne_eq, not_true_eq_false, not_false_eq_true, mo_ff_l, mo_ff_f, mo_ff_2, mo_ff_12, mo_ff_24, mo_wq_1, mo_wq_31, mo_wq_32, mo_wq_2] at *; omega)) (fun hb109 => ?_) (fun hb109 => ?_)
      · refine mw_iinc dM_resolve_115 rfl (by decide) rfl ?_
        refine mw_goto (tgt := 75) dM_resolve_118 (by decide) ?_
        refine ih (by omega) (by omega) (fun j q1 q2 => ?_)
        by_cases e : j = k
        · subst e; exact fun z => by omega
        · exact hj j q1 (by omega)
      · refine mw_bipush dM_resolve_112 (by decide +kernel) ?_
        refine mw_iret dM_resolve_114 rfl ?_
        exact hin k h0 (by omega) (by omega) (by omega)
theorem mo_res_p {l0 m0 N m l ty x y : Int} {x7 : Option Value} {p q : Int → Int} (hN : 0 ≤ N ∧ N ≤ 8) (hx : iB x) (hy : 0 ≤ y ∧ y ≤ 4173) (hfull : N = 8 → Q (.inl (some (.int (iI (-2))))) (mo_ff (mo_wq s p q) x y)) (hgo : N < 8 → mw G b ad mM_resolve d Q 11 [some (.ref b), some (.int (iI l0)), some (.int (iI m0)), some (.int (iI (N + 1))), some (.int (iI (s.2.1 2 (y + 1)))), some (.int (iI x)), some (.int (iI ty)), x7] [] (mo_ff (mo_wq s (mo_up1 p N x) (mo_up1 q N y)) x y) kc ks) : mw G b ad mM_resolve d Q 121 [some (.ref b), some (.int (iI l0)), some (.int (iI m0)), some (.int (iI N)), some (.int (iI m)), some (.int (iI l)), some (.int (iI ty)), x7] [] (mo_ff (mo_wq s p q) x y) kc ks := by
  refine mw_iload_n dM_resolve_121 rfl ?_
  refine mw_bipush dM_resolve_122 (by decide +kernel) ?_
  refine mw_icmp_ne (tgt := 130) dM_resolve_124 (by decide) (by first | omega | (simp only [mo_uz_1, mo_uz_2, mo_uf_1, mo_uf_2, mo_uf_22, mo_ug_1, mo_ug_2, mo_ug_22, mo_len, Nat.reduceEqDiff, false_and, true_and, and_true, and_false, if_false, if_true, reduceIte, ite_true, ite_false, ne_eq, not_true_eq_false, not_false_eq_true, mo_ff_l, mo_ff_f, mo_ff_2, mo_ff_12, mo_ff_24, mo_wq_1, mo_wq_31, mo_wq_32, mo_wq_2] at *; omega)) (by first | omega | (simp only [mo_uz_1, mo_uz_2, mo_uf_1, mo_uf_2, mo_uf_22, mo_ug_1, mo_ug_2, mo_ug_22, mo_len, Nat.reduceEqDiff, false_and, true_and, and_true, and_false, if_false, if_true, reduceIte, ite_true, ite_false, ne_eq, not_true_eq_false, not_false_eq_true, mo_ff_l, mo_ff_f, mo_ff_2, mo_ff_12, mo_ff_24, mo_wq_1, mo_wq_31, mo_wq_32, mo_wq_2] at *; omega)) (fun hb124 => ?_) (fun hb124 => ?_)
  · refine mw_aload_n dM_resolve_130 rfl ?_
    refine mw_get dM_resolve_131 fM_97 rfl ?_
    refine mw_iload_n dM_resolve_134 rfl ?_
    refine mw_aload_n dM_resolve_135 rfl ?_
    refine mw_getI dM_resolve_136 fM_163 rfl (fun hv136 => ?_)
    refine mw_iast dM_resolve_139 rfl rfl (by first | omega | (simp only [mo_uz_1, mo_uz_2, mo_uf_1, mo_uf_2, mo_uf_22, mo_ug_1, mo_ug_2, mo_ug_22, mo_len, Nat.reduceEqDiff, false_and, true_and, and_true, and_false, if_false, if_true, reduceIte, ite_true, ite_false, ne_eq, not_true_eq_false, not_false_eq_true, mo_ff_l, mo_ff_f, mo_ff_2, mo_ff_12, mo_ff_24, mo_wq_1, mo_wq_31, mo_wq_32, mo_wq_2] at *; omega)) (by first | omega | (simp only [mo_uz_1, mo_uz_2, mo_uf_1, mo_uf_2, mo_uf_22, mo_ug_1, mo_ug_2, mo_ug_22, mo_len, Nat.reduceEqDiff, false_and, true_and, and_true, and_false, if_false, if_true, reduceIte, ite_true, ite_false, ne_eq, not_true_eq_false, not_false_eq_true, mo_ff_l, mo_ff_f, mo_ff_2, mo_ff_12, mo_ff_24, mo_wq_1, mo_wq_31, mo_wq_32, mo_wq_2] at *; omega)) (by first | omega | (simp only [mo_uz_1, mo_uz_2, mo_uf_1, mo_uf_2, mo_uf_22, mo_ug_1, mo_ug_2, mo_ug_22, mo_len, Nat.reduceEqDiff, false_and, true_and, and_true, and_false, if_false, if_true, reduceIte, ite_true, ite_false, ne_eq, not_true_eq_false, not_false_eq_true, mo_ff_l, mo_ff_f, mo_ff_2, mo_ff_12, mo_ff_24, mo_wq_1, mo_wq_31, mo_wq_32, mo_wq_2] at *; omega)) ?_
    rw [mo_wq_s31]
    refine mw_aload_n dM_resolve_140 rfl ?_
    refine mw_get dM_resolve_141 fM_100 rfl ?_
    refine mw_iload_n dM_resolve_144 rfl ?_
    refine mw_aload_n dM_resolve_145 rfl ?_
    refine mw_getI dM_resolve_146 fM_157 rfl (fun hv146 => ?_)
    refine mw_iast dM_resolve_149 rfl rfl (by first | omega | (simp only [mo_uz_1, mo_uz_2, mo_uf_1, mo_uf_2, mo_uf_22, mo_ug_1, mo_ug_2, mo_ug_22, mo_len, Nat.reduceEqDiff, false_and, true_and, and_true, and_false, if_false, if_true, reduceIte, ite_true, ite_false, ne_eq, not_true_eq_false, not_false_eq_true, mo_ff_l, mo_ff_f, mo_ff_2, mo_ff_12, mo_ff_24, mo_wq_1, mo_wq_31, mo_wq_32, mo_wq_2] at *; omega)) (by first | omega | (simp only [mo_uz_1, mo_uz_2, mo_uf_1, mo_uf_2, mo_uf_22, mo_ug_1, mo_ug_2, mo_ug_22, mo_len, Nat.reduceEqDiff, false_and, true_and, and_true, and_false, if_false, if_true, reduceIte, ite_true, ite_false, ne_eq, not_true_eq_false, not_false_eq_true, mo_ff_l, mo_ff_f, mo_ff_2, mo_ff_12, mo_ff_24, mo_wq_1, mo_wq_31, mo_wq_32, mo_wq_2] at *; omega)) (by first | omega | (simp only [mo_uz_1, mo_uz_2, mo_uf_1, mo_uf_2, mo_uf_22, mo_ug_1, mo_ug_2, mo_ug_22, mo_len, Nat.reduceEqDiff, false_and, true_and, and_true, and_false, if_false, if_true, reduceIte, ite_true, ite_false, ne_eq, not_true_eq_false, not_false_eq_true, mo_ff_l, mo_ff_f, mo_ff_2, mo_ff_12, mo_ff_24, mo_wq_1, mo_wq_31, mo_wq_32, mo_wq_2] at *; omega)) ?_
    rw [mo_wq_s32]
    refine mw_iinc dM_resolve_150 rfl (by decide) rfl ?_
    refine mw_aload_n dM_resolve_153 rfl ?_
    refine mw_getI dM_resolve_154 fM_163 rfl (fun hv154 => ?_)
    refine mw_istore dM_resolve_157 (by decide) rfl ?_
    refine mw_aload_n dM_resolve_159 rfl ?_
    refine mw_get dM_resolve_160 fM_13 rfl ?_
    refine mw_aload_n dM_resolve_163 rfl ?_
    refine mw_getI dM_resolve_164 fM_157 rfl (fun hv164 => ?_)
    refine mw_iconst dM_resolve_167 ?_
    refine mw_iadd dM_resolve_168 ?_
    refine mw_iald dM_resolve_169 rfl rfl (by first | omega | (simp only [mo_uz_1, mo_uz_2, mo_uf_1, mo_uf_2, mo_uf_22, mo_ug_1, mo_ug_2, mo_ug_22, mo_len, Nat.reduceEqDiff, false_and, true_and, and_true, and_false, if_false, if_true, reduceIte, ite_true, ite_false, ne_eq, not_true_eq_false, not_false_eq_true, mo_ff_l, mo_ff_f, mo_ff_2, mo_ff_12, mo_ff_24, mo_wq_1, mo_wq_31, mo_wq_32, mo_wq_2] at *; omega)) (by first | omega | (simp only [mo_uz_1, mo_uz_2, mo_uf_1, mo_uf_2, mo_uf_22, mo_ug_1, mo_ug_2, mo_ug_22, mo_len, Nat.reduceEqDiff, false_and, true_and, and_true, and_false, if_false, if_true, reduceIte, ite_true, ite_false, ne_eq, not_true_eq_false, not_false_eq_true, mo_ff_l, mo_ff_f, mo_ff_2, mo_ff_12, mo_ff_24, mo_wq_1, mo_wq_31, mo_wq_32, mo_wq_2] at *; omega)) (fun hv169 => ?_)
    refine mw_istore dM_resolve_170 (by decide) rfl ?_
    refine mw_goto (tgt := 11) dM_resolve_172 (by decide) ?_
    exact hgo (by omega)
  · refine mw_bipush dM_resolve_127 (by decide +kernel) ?_
    refine mw_iret dM_resolve_129 rfl ?_
    exact hfull (by omega)
theorem mo_res_t {l0 m0 N m l ty : Int} {x7 : Option Value} (ht : 0 ≤ ty) (hb : iB ty) (hk : mw G b ad mM_resolve d Q 175 [some (.ref b), some (.int (iI l0)), some (.int (iI m0)), some (.int (iI N)), some (.int (iI m)), some (.int (iI l)), some (.int (iI ty)), x7] [] s kc ks) : mw G b ad mM_resolve d Q 11 [some (.ref b), some (.int (iI l0)), some (.int (iI m0)), some (.int (iI N)), some (.int (iI m)), some (.int (iI l)), some (.int (iI ty)), x7] [] s kc ks := by
  refine mw_iload dM_resolve_11 rfl ?_
  refine mw_if_ge (tgt := 175) dM_resolve_13 (by decide) (by first | omega | (simp only [mo_uz_1, mo_uz_2, mo_uf_1, mo_uf_2, mo_uf_22, mo_ug_1, mo_ug_2, mo_ug_22, mo_len, Nat.reduceEqDiff, false_and, true_and, and_true, and_false, if_false, if_true, reduceIte, ite_true, ite_false, ne_eq, not_true_eq_false, not_false_eq_true, mo_ff_l, mo_ff_f, mo_ff_2, mo_ff_12, mo_ff_24, mo_wq_1, mo_wq_31, mo_wq_32, mo_wq_2] at *; omega)) (fun hb13 => ?_) (fun hb13 => absurd hb13 (by omega))
  exact hk
end MO8
