/-! sheets and loaders: what lock keeps -/
section MO15
variable {G : aw_G} {b : Nat} {ad : Nat → Nat} {d : Nat} {Q : aw_O → mo_S → Prop} {s : mo_S} {kc ks : Nat}
/-- the sheet y' of s' is the sheet y of s -/
def mo_she (s : mo_S) (y : Int) (s' : mo_S) (y' : Int) : Prop := s'.2.1 1 y' = s.2.1 1 y ∧ s'.2.1 3 y' = s.2.1 3 y ∧ (∀ j, 0 ≤ j → j < 24 → s'.2.1 2 (24 * y' + j) = s.2.1 2 (24 * y + j)) ∧ (∀ j, 0 ≤ j → j < 8 → s'.2.1 4 (8 * y' + j) = s.2.1 4 (8 * y + j))
theorem mo_she_rf (s : mo_S) (y : Int) : mo_she s y s y := ⟨rfl, rfl, fun _ _ _ => rfl, fun _ _ _ => rfl⟩
theorem mo_she_tr {s s1 s2 : mo_S} {y y1 y2 : Int} (h : mo_she s y s1 y1) (h' : mo_she s1 y1 s2 y2) : mo_she s y s2 y2 := ⟨h'.1.trans h.1, h'.2.1.trans h.2.1, fun j q1 q2 => (h'.2.2.1 j q1 q2).trans (h.2.2.1 j q1 q2), fun j q1 q2 => (h'.2.2.2 j q1 q2).trans (h.2.2.2 j q1 q2)⟩
theorem mo_she_uq {s s' : mo_S} {y y' : Int} (h : mo_she s y s' y') (hu : mo_uq s y) : mo_uq s' y' := by
  obtain ⟨h1, h3, h2, h4⟩ := h
  obtain ⟨u1, u2, u3, u4, u5⟩ := hu
  have c2 : ∀ j, 0 ≤ j → j < s.2.1 1 y → s'.2.1 2 (24 * y' + 3 * j) = s.2.1 2 (24 * y + 3 * j) := fun j q1 q2 => h2 (3 * j) (by omega) (by omega)
  have c4 : ∀ j, 0 ≤ j → j < s.2.1 3 y → s'.2.1 4 (8 * y' + 2 * j) = s.2.1 4 (8 * y + 2 * j) := fun j q1 q2 => h4 (2 * j) (by omega) (by omega)
  have c5 : ∀ j, 0 ≤ j → j < s.2.1 3 y → s'.2.1 4 (8 * y' + 2 * j + 1) = s.2.1 4 (8 * y + 2 * j + 1) := fun j q1 q2 => by
    have := h4 (2 * j + 1) (by omega) (by omega)
    rw [← Int.add_assoc, ← Int.add_assoc] at this
    exact this
  refine ⟨by rw [h1]; exact u1, by rw [h3]; exact u2, ?_, ?_, ?_⟩
  · rw [h1]
    intro j k q1 q2 q3 q4 q5
    rw [c2 j q1 q2, c2 k q3 q4] at q5
    exact u3 j k q1 q2 q3 q4 q5
  · rw [h3]
    intro j k q1 q2 q3 q4 q5
    rw [c4 j q1 q2, c4 k q3 q4] at q5
    exact u4 j k q1 q2 q3 q4 q5
  · rw [h3]
    intro k q1 q2
    rw [c5 k q1 q2]
    exact u5 k q1 q2
theorem mo_she_nr {s s' : mo_S} {y y' : Int} (h : mo_she s y s' y') (hu : 0 ≤ s.2.1 1 y ∧ s.2.1 1 y ≤ 8) (hn : mo_nr s.2 y) : mo_nr s'.2 y' := by
  obtain ⟨h1, h3, h2, h4⟩ := h
  intro k q1 q2
  rw [h1] at q2
  have a1 := h2 (3 * k) (by omega) (by omega)
  have a2 := h2 (3 * k + 1) (by omega) (by omega)
  rw [← Int.add_assoc, ← Int.add_assoc] at a2
  rw [a1, a2]
  exact hn k q1 q2
theorem mo_copied_1 (s : mo_S) (f t y : Int) : (mo_copied s f t).2.1 1 y = if y = t then s.2.1 1 f else s.2.1 1 y := by
  rw [mo_cp_o _ (by decide), mo_cp_o _ (by decide), mo_uf_o _ (by decide)]
  exact mo_uf_arr y
theorem mo_copied_3 (s : mo_S) (f t y : Int) : (mo_copied s f t).2.1 3 y = if y = t then s.2.1 3 f else s.2.1 3 y := by
  rw [mo_cp_o _ (by decide), mo_cp_o _ (by decide)]
  exact mo_uf_arr y
theorem mo_copied_2 (s : mo_S) (f t q : Int) : (mo_copied s f t).2.1 2 q = if 24 * t ≤ q ∧ q < 24 * t + 24 then s.2.1 2 (q - 24 * t + 24 * f) else s.2.1 2 q := by
  rw [mo_cp_o _ (by decide)]
  show (if 2 = 2 ∧ 24 * t ≤ q ∧ q < 24 * t + 24 then _ else _) = _
  by_cases e : 24 * t ≤ q ∧ q < 24 * t + 24
  · rw [if_pos ⟨rfl, e⟩, if_pos e]; rfl
  · rw [if_neg (fun z => e z.2), if_neg e]; rfl
theorem mo_copied_4 (s : mo_S) (f t q : Int) : (mo_copied s f t).2.1 4 q = if 8 * t ≤ q ∧ q < 8 * t + 8 then s.2.1 4 (q - 8 * t + 8 * f) else s.2.1 4 q := by
  have e0 : ∀ q, (mo_cp (mo_uf (mo_uf s 1 t (s.2.1 1 f)) 3 t (s.2.1 3 f)) 2 (24 * t) (24 * f) 24).2.1 4 q = s.2.1 4 q := fun q => by
    rw [mo_cp_o _ (by decide), mo_uf_o _ (by decide), mo_uf_o _ (by decide)]
  show (if 4 = 4 ∧ 8 * t ≤ q ∧ q < 8 * t + 8 then _ else _) = _
  by_cases e : 8 * t ≤ q ∧ q < 8 * t + 8
  · rw [if_pos ⟨rfl, e⟩, if_pos e, e0]
  · rw [if_neg (fun z => e z.2), if_neg e, e0]
theorem mo_copied_n (s : mo_S) (f : Int) {t y : Int} (h : y ≠ t) : mo_she s y (mo_copied s f t) y := by
  refine ⟨?_, ?_, fun j q1 q2 => ?_, fun j q1 q2 => ?_⟩
  · rw [mo_copied_1, if_neg h]
  · rw [mo_copied_3, if_neg h]
  · rw [mo_copied_2, if_neg (by omega)]
  · rw [mo_copied_4, if_neg (by omega)]
theorem mo_copied_y (s : mo_S) (f t : Int) : mo_she s f (mo_copied s f t) t := by
  refine ⟨?_, ?_, fun j q1 q2 => ?_, fun j q1 q2 => ?_⟩
  · rw [mo_copied_1, if_pos rfl]
  · rw [mo_copied_3, if_pos rfl]
  · rw [mo_copied_2, if_pos (by omega), show 24 * t + j - 24 * t + 24 * f = 24 * f + j by omega]
  · rw [mo_copied_4, if_pos (by omega), show 8 * t + j - 8 * t + 8 * f = 8 * f + j by omega]
theorem mo_cpy_n (s : mo_S) (f l : Int) {y : Int} : ∀ n : Nat, (∀ i, 0 ≤ i → i < (n : Int) → y ≠ 10 + 4 * l + i) → mo_she s y (mo_cpy s f l n) y := by
  intro n
  induction n with
  | zero => exact fun _ => mo_she_rf s y
  | succ n ih => exact fun h => mo_she_tr (ih (fun i q1 q2 => h i q1 (by omega))) (mo_copied_n _ _ (h n (by omega) (by omega)))
theorem mo_cpy_y (s : mo_S) (f l : Int) (hl : 1 ≤ l) : ∀ (n : Nat), (∀ i, 0 ≤ i → i < (n : Int) → 0 ≤ s.2.1 15 (f + i) ∧ s.2.1 15 (f + i) ≤ 9) → ∀ i, 0 ≤ i → i < (n : Int) → mo_she s (s.2.1 15 (f + i)) (mo_cpy s f l n) (10 + 4 * l + i) := by
  intro n
  induction n with
  | zero => exact fun _ i q1 q2 => absurd q2 (by omega)
  | succ n ih =>
    intro hp i q1 q2
    by_cases e : i = n
    · subst e
      have hp9 := hp n (by omega) (by omega)
      exact mo_she_tr (mo_cpy_n s f l n (fun i q1 q2 => by omega)) (mo_copied_y _ _ _)
    · exact mo_she_tr (ih (fun i q1 q2 => hp i q1 (by omega)) i q1 (by omega)) (mo_copied_n _ _ (by omega))
theorem mo_cpy_1 (s : mo_S) (f l : Int) (n : Nat) : (mo_cpy s f l n).1 = s.1 ∧ (mo_cpy s f l n).2.2 = s.2.2 := by
  induction n with
  | zero => exact ⟨rfl, rfl⟩
  | succ n ih => exact ih
/-- sheets and loaders are as they should be -/
def mo_SL (s : mo_S) : Prop := (∀ a, 0 ≤ a → a ≤ 9 → mo_uq s a ∧ mo_nr s.2 a) ∧ ∀ l, 1 ≤ l → l ≤ 40 → ¬ s.2.1 5 l = 0 → mo_ldr s.2 l
/-- the loader j of s is there in s' as it was -/
def mo_same (s s' : mo_S) (j : Int) : Prop := s'.2.1 6 j = s.2.1 6 j ∧ s'.2.1 7 j = s.2.1 7 j ∧ s'.2.1 8 j = s.2.1 8 j ∧ s'.2.1 9 j = s.2.1 9 j ∧ s'.2.2 10 j = s.2.2 10 j ∧ s'.2.2 11 j = s.2.2 11 j ∧ ∀ i, 0 ≤ i → i < 4 → mo_she s (10 + 4 * j + i) s' (10 + 4 * j + i)
theorem mo_ldr_sm {s s' : mo_S} {j : Int} (h : mo_same s s' j) (hl : mo_ldr s.2 j) : mo_ldr s'.2 j := by
  obtain ⟨h6, h7, h8, h9, h10, h11, hs⟩ := h
  obtain ⟨l1, l2, l3, l4, l5, l6⟩ := hl
  refine ⟨l1, by rw [h6]; exact l2, by rw [h8]; exact l3, by rw [h6, h8]; exact l4, ?_, ?_⟩
  · rw [h8]
    exact fun i q1 q2 => mo_she_uq (hs i q1 (by omega)) (l5 i q1 q2)
  · rw [h8]
    exact fun i q1 q2 => mo_she_nr (hs i q1 (by omega)) (l5 i q1 q2).1 (l6 i q1 q2)
/-- s' is s with one loader l more, of the kind k, the parent p, n sheets -/
def mo_more (s s' : mo_S) (l k p n : Int) : Prop := ((1 ≤ l ∧ l ≤ 40) ∧ s.2.1 5 l = 0 ∧ ∀ j, 1 ≤ j → j < l → ¬ s.2.1 5 j = 0) ∧ (∀ j, s'.2.1 5 j = if j = l then 1 else s.2.1 5 j) ∧ (∀ j, j ≠ l → mo_same s s' j) ∧ (s'.2.1 6 l = k ∧ s'.2.1 7 l = p ∧ s'.2.1 8 l = n) ∧ (∀ a, 0 ≤ a → a ≤ 9 → mo_she s a s' a) ∧ (∀ k, 12 ≤ k → s'.2.1 k = s.2.1 k ∧ s'.2.2 k = s.2.2 k) ∧ s'.1 = s.1
theorem mo_newf_m {s : mo_S} {c p l : Int} (h : (1 ≤ l ∧ l ≤ 40) ∧ s.2.1 5 l = 0 ∧ ∀ j, 1 ≤ j → j < l → ¬ s.2.1 5 j = 0) : mo_more s (mo_newf s c p l) l 2 p 0 := by
  refine ⟨h, fun j => mo_uf_arr j, fun j hj => ⟨?_, ?_, ?_, ?_, ?_, ?_, fun i q1 q2 => ⟨rfl, rfl, fun _ _ _ => rfl, fun _ _ _ => rfl⟩⟩, ⟨?_, ?_, ?_⟩, fun a q1 q2 => ⟨rfl, rfl, fun _ _ _ => rfl, fun _ _ _ => rfl⟩, fun k hk => ⟨?_, ?_⟩, rfl⟩
  · exact (mo_uf_arr j).trans (if_neg hj)
  · exact (mo_uf_arr j).trans (if_neg hj)
  · exact (mo_uf_arr j).trans ((if_neg hj).trans rfl)
  · exact (mo_uf_arr j).trans (if_neg hj)
  · exact if_neg (fun z => hj z.2)
  · exact if_neg (fun z => hj z.2)
  · exact (mo_uf_arr l).trans (if_pos rfl)
  · exact (mo_uf_arr l).trans (if_pos rfl)
  · exact (mo_uf_arr l).trans (if_pos rfl)
  · show (mo_uf (mo_uf (mo_uf (mo_uf (mo_uf s 5 l 1) 6 l 2) 7 l p) 8 l 0) 9 l (s.2.1 18 c)).2.1 k = _
    rw [mo_uf_o _ (by omega), mo_uf_o _ (by omega), mo_uf_o _ (by omega), mo_uf_o _ (by omega), mo_uf_o _ (by omega)]
  · funext j
    exact (if_neg (fun z => absurd z.1 (by omega))).trans (if_neg (fun z => absurd z.1 (by omega)))
theorem mo_newd_m {s : mo_S} {f n p l : Int} (h : (1 ≤ l ∧ l ≤ 40) ∧ s.2.1 5 l = 0 ∧ ∀ j, 1 ≤ j → j < l → ¬ s.2.1 5 j = 0) (hn : 0 ≤ n ∧ n ≤ 4) : mo_more s (mo_newd s f n p l) l 1 p n := by
  have e1 := mo_cpy_1 (mo_uf (mo_uf (mo_uf (mo_uf (mo_uf s 5 l 1) 6 l 1) 7 l p) 8 l 0) 8 l n) f l n.toNat
  have eo : ∀ {k : Nat}, 5 ≤ k → (mo_newd s f n p l).2.1 k = (mo_uf (mo_uf (mo_uf (mo_uf (mo_uf s 5 l 1) 6 l 1) 7 l p) 8 l 0) 8 l n).2.1 k := fun hk => mo_cpy_o _ hk f l n.toNat
  have e22 : (mo_newd s f n p l).2.2 = s.2.2 := e1.2
  have es : ∀ y, (∀ i, 0 ≤ i → i < (n.toNat : Int) → y ≠ 10 + 4 * l + i) → mo_she s y (mo_newd s f n p l) y := fun y hy => mo_she_tr (y1 := y) ⟨rfl, rfl, fun _ _ _ => rfl, fun _ _ _ => rfl⟩ (mo_cpy_n (mo_uf (mo_uf (mo_uf (mo_uf (mo_uf s 5 l 1) 6 l 1) 7 l p) 8 l 0) 8 l n) f l n.toNat hy)
  refine ⟨h, fun j => ?_, fun j hj => ⟨?_, ?_, ?_, ?_, ?_, ?_, fun i q1 q2 => es _ (fun i q1 q2 => by omega)⟩, ⟨?_, ?_, ?_⟩, fun a q1 q2 => es _ (fun i q3 q4 => by have := h.1; omega), fun k hk => ⟨?_, ?_⟩, e1.1⟩
  · rw [eo (by decide)]; exact mo_uf_arr j
  · rw [eo (by decide)]; exact (mo_uf_arr j).trans (if_neg hj)
  · rw [eo (by decide)]; exact (mo_uf_arr j).trans (if_neg hj)
  · rw [eo (by decide)]; exact (mo_uf_arr j).trans ((if_neg hj).trans ((mo_uf_arr j).trans (if_neg hj)))
  · rw [eo (by decide)]; rfl
  · rw [e22]
  · rw [e22]
  · rw [eo (by decide)]; exact (mo_uf_arr l).trans (if_pos rfl)
  · rw [eo (by decide)]; exact (mo_uf_arr l).trans (if_pos rfl)
  · rw [eo (by decide)]; exact (mo_uf_arr l).trans (if_pos rfl)
  · rw [eo (by omega), mo_uf_o _ (by omega), mo_uf_o _ (by omega), mo_uf_o _ (by omega), mo_uf_o _ (by omega), mo_uf_o _ (by omega)]
  · rw [e22]
theorem mo_newd_s {s : mo_S} {f n p l : Int} (hl : 1 ≤ l) (hn : 0 ≤ n) (hp : ∀ i, 0 ≤ i → i < n → 0 ≤ s.2.1 15 (f + i) ∧ s.2.1 15 (f + i) ≤ 9) {i : Int} (h0 : 0 ≤ i) (h1 : i < n) : mo_she s (s.2.1 15 (f + i)) (mo_newd s f n p l) (10 + 4 * l + i) := by
  have := mo_cpy_y (mo_uf (mo_uf (mo_uf (mo_uf (mo_uf s 5 l 1) 6 l 1) 7 l p) 8 l 0) 8 l n) f l hl n.toNat (fun i q1 q2 => hp i q1 (by omega)) i h0 (by omega)
  exact mo_she_tr (y1 := s.2.1 15 (f + i)) ⟨rfl, rfl, fun _ _ _ => rfl, fun _ _ _ => rfl⟩ this
theorem mo_SL_m {s s' : mo_S} {l k p n : Int} (h : mo_SL s) (hm : mo_more s s' l k p n) (hl : mo_ldr s'.2 l) : mo_SL s' := by
  refine ⟨fun a q1 q2 => ?_, fun j q1 q2 q3 => ?_⟩
  · have hs := hm.2.2.2.2.1 a q1 q2
    have hu := h.1 a q1 q2
    exact ⟨mo_she_uq hs hu.1, mo_she_nr hs hu.1.1 hu.2⟩
  · by_cases e : j = l
    · subst e; exact hl
    · rw [hm.2.1, if_neg e] at q3
      exact mo_ldr_sm (hm.2.2.1 j e) (h.2 j q1 q2 q3)
theorem mo_newf_SL {s : mo_S} {c p l : Int} (h : (1 ≤ l ∧ l ≤ 40) ∧ s.2.1 5 l = 0 ∧ ∀ j, 1 ≤ j → j < l → ¬ s.2.1 5 j = 0) (hs : mo_SL s) : mo_SL (mo_newf s c p l) := by
  have hm := mo_newf_m (c := c) (p := p) h
  obtain ⟨e6, e7, e8⟩ := hm.2.2.2.1
  refine mo_SL_m hs hm ⟨h.1, Or.inr e6, by rw [e8]; decide, fun _ => e8, ?_, ?_⟩
  · rw [e8]; exact fun i q1 q2 => absurd q2 (by omega)
  · rw [e8]; exact fun i q1 q2 => absurd q2 (by omega)
theorem mo_newd_SL {s : mo_S} {f n p l : Int} (h : (1 ≤ l ∧ l ≤ 40) ∧ s.2.1 5 l = 0 ∧ ∀ j, 1 ≤ j → j < l → ¬ s.2.1 5 j = 0) (hn : 0 ≤ n ∧ n ≤ 4) (hp : ∀ i, 0 ≤ i → i < n → 0 ≤ s.2.1 15 (f + i) ∧ s.2.1 15 (f + i) ≤ 9) (hs : mo_SL s) : mo_SL (mo_newd s f n p l) := by
  have hm := mo_newd_m (f := f) (p := p) h hn
  obtain ⟨e6, e7, e8⟩ := hm.2.2.2.1
  refine mo_SL_m hs hm ⟨h.1, Or.inl e6, by rw [e8]; exact hn, fun z => absurd (e6.symm.trans z) (by decide), ?_, ?_⟩
  · rw [e8]
    exact fun i q1 q2 => mo_she_uq (mo_newd_s h.1.1 hn.1 hp q1 q2) (hs.1 _ (hp i q1 q2).1 (hp i q1 q2).2).1
  · rw [e8]
    exact fun i q1 q2 => mo_she_nr (mo_newd_s h.1.1 hn.1 hp q1 q2) (hs.1 _ (hp i q1 q2).1 (hp i q1 q2).2).1.1 (hs.1 _ (hp i q1 q2).1 (hp i q1 q2).2).2
theorem mo_SL_u {s : mo_S} (h : mo_SL s) : (∀ a, 0 ≤ a → a ≤ 9 → mo_uq s a) ∧ (∀ l i, 1 ≤ l → l ≤ 40 → ¬ s.2.1 5 l = 0 → s.2.1 6 l = 1 → 0 ≤ i → i < s.2.1 8 l → mo_uq s (10 + 4 * l + i)) := ⟨fun a q1 q2 => (h.1 a q1 q2).1, fun l i q1 q2 q3 _ q5 q6 => (h.2 l q1 q2 q3).2.2.2.2.1 i q5 q6⟩
/-- how many numbers are free, and a new one takes one -/
theorem mo_fr_ad (f : Int → Int) {l : Int} (h1 : 1 ≤ l) (hl : f l = 0) (n : Nat) : mo_fr f n = mo_fr (fun j => if j = l then 1 else f j) n + (if l ≤ n then 1 else 0) := by
  induction n with
  | zero =>
    show (0 : Int) = 0 + _
    rw [if_neg (by omega)]
    rfl
  | succ n ih =>
    rw [mo_fr, mo_fr, ih]
    by_cases e : (n : Int) + 1 = l
    · have e3 : l ≤ ((n + 1 : Nat) : Int) := by omega
      have e4 : ¬ l ≤ (n : Int) := by omega
      have e5 : f ((n : Int) + 1) = 0 := by rw [e]; exact hl
      rw [if_neg e4, if_pos e5, if_pos e, if_neg (by decide), if_pos e3]
    · rw [if_neg e]
      by_cases e2 : l ≤ n
      · have e3 : l ≤ ((n + 1 : Nat) : Int) := by omega
        rw [if_pos e2, if_pos e3]
        omega
      · have e3 : ¬ l ≤ ((n + 1 : Nat) : Int) := by omega
        rw [if_neg e2, if_neg e3]
        omega
theorem mo_more_fr {s s' : mo_S} {l k p n : Int} (hm : mo_more s s' l k p n) : mo_fr (s.2.1 5) 40 = mo_fr (s'.2.1 5) 40 + 1 := by
  have e : s'.2.1 5 = fun j => if j = l then 1 else s.2.1 5 j := by
    funext j; exact hm.2.1 j
  rw [e, mo_fr_ad _ hm.1.1.1 hm.1.2.1, if_pos (show l ≤ ((40 : Nat) : Int) from hm.1.1.2)]
theorem mo_fr_ex (f : Int → Int) : ∀ n : Nat, 1 ≤ mo_fr f n → ∃ j, 1 ≤ j ∧ j ≤ (n : Int) ∧ f j = 0 := by
  intro n
  induction n with
  | zero => exact fun h => absurd h (by show ¬ (1 : Int) ≤ 0; decide)
  | succ n ih =>
    intro h
    by_cases e : f ((n : Int) + 1) = 0
    · exact ⟨(n : Int) + 1, by omega, by omega, e⟩
    · rw [mo_fr, if_neg e, Int.add_zero] at h
      obtain ⟨j, q1, q2, q3⟩ := ih h
      exact ⟨j, q1, by omega, q3⟩
end MO15
