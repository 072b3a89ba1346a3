/-! what holds of every state is kept -/
section CR20
variable {s s' : mo_S}
theorem iv_SL (h : mo_SL s) (F : ∀ k, k ≤ 8 → s'.2.1 k = s.2.1 k) : mo_SL s' := by
  unfold mo_SL mo_ldr mo_uq mo_nr at h ⊢
  have e : ∀ k, (mo_s0 s'.2).2.1 k = s'.2.1 k := fun _ => rfl
  have e' : ∀ k, (mo_s0 s.2).2.1 k = s.2.1 k := fun _ => rfl
  simp only [e] at ⊢
  simp only [e'] at h
  simp only [F 1 (by decide), F 2 (by decide), F 3 (by decide), F 4 (by decide), F 5 (by decide), F 6 (by decide), F 8 (by decide)]
  exact h
theorem iv_ku (h : mo_ku s.2 (s.1 24)) (e24 : s'.1 24 = s.1 24) (a25 : s'.2.1 25 = s.2.1 25) (a26 : s'.2.1 26 = s.2.1 26) : mo_ku s'.2 (s'.1 24) := by
  intro a b c c' q1 q2 q3
  unfold mo_kn at q2 q3
  rw [e24, a25, a26] at q2 q3
  exact h a b c c' q1 q2 q3
theorem iv_ch (F5 : ∀ j, ¬ s.2.1 5 j = 0 → ¬ s'.2.1 5 j = 0) (F7 : ∀ j, ¬ s.2.1 5 j = 0 → s'.2.1 7 j = s.2.1 7 j) : ∀ n j, cr_ch s.2 n j → cr_ch s'.2 n j := by
  intro n
  induction n with
  | zero => exact fun j h => h
  | succ n ih =>
    intro j h
    rcases h with h | ⟨h1, h2, h3⟩
    · exact Or.inl h
    · exact Or.inr ⟨h1, F5 j h2, by rw [F7 j h2]; exact ih _ h3⟩
/-- the same fields, the same facts -/
theorem Iv0.cg (h : Iv0 s) (e12 : s'.1 12 = s.1 12) (e24 : s'.1 24 = s.1 24) (F : ∀ k, k ≤ 28 → k ≠ 9 → k ≠ 18 → k ≠ 17 → s'.2.1 k = s.2.1 k) (F17 : ∀ j, s.1 12 ≤ j → j ≤ 11 → s'.2.1 17 j = s.2.1 17 j) : Iv0 s' := by
  obtain ⟨i1, i2, i3, i4, i5, i6, i7, i8, i9, i10, i11, i12⟩ := h
  have ll : ∀ j, cr_ll s' j ↔ cr_ll s j := fun j => by unfold cr_ll; rw [F 5 (by decide) (by decide) (by decide) (by decide)]
  have ch := iv_ch (s := s) (s' := s') (fun j q => by rw [F 5 (by decide) (by decide) (by decide) (by decide)]; exact q) (fun j _ => by rw [F 7 (by decide) (by decide) (by decide) (by decide)])
  refine ⟨by rw [e12]; exact i1, by rw [e24]; exact i2, iv_SL i3 (fun k hk => F k (by omega) (by omega) (by omega) (by omega)), iv_ku i4 e24 (F 25 (by decide) (by decide) (by decide) (by decide)) (F 26 (by decide) (by decide) (by decide) (by decide)), ?_, ?_, ?_, ?_, ?_, ?_, ?_, ?_⟩
  · rw [e24, F 28 (by decide) (by decide) (by decide) (by decide)]; exact i5
  · rw [F 5 (by decide) (by decide) (by decide) (by decide), F 6 (by decide) (by decide) (by decide) (by decide), F 7 (by decide) (by decide) (by decide) (by decide), F 8 (by decide) (by decide) (by decide) (by decide)]; exact i6
  · intro l hl
    obtain ⟨n, hn⟩ := i7 l ((ll l).mp hl)
    exact ⟨n, ch n l hn⟩
  · intro i q1 q2
    rw [e12] at q2
    have a := i8 i q1 q2
    unfold iv_s at a ⊢
    rw [F 13 (by decide) (by decide) (by decide) (by decide), F 14 (by decide) (by decide) (by decide) (by decide), F 15 (by decide) (by decide) (by decide) (by decide), F 16 (by decide) (by decide) (by decide) (by decide), F 21 (by decide) (by decide) (by decide) (by decide), F 22 (by decide) (by decide) (by decide) (by decide), F 23 (by decide) (by decide) (by decide) (by decide), F 28 (by decide) (by decide) (by decide) (by decide), e24]
    exact ⟨a.1, a.2.1, a.2.2.1, a.2.2.2.1, fun m k k1 k2 => (ll _).mpr (a.2.2.2.2 m k k1 k2)⟩
  · intro c q1 q2
    rw [e24] at q2
    have a := i9 c q1 q2
    unfold iv_t at a ⊢
    rw [F 26 (by decide) (by decide) (by decide) (by decide)]
    exact ⟨a.1, fun m => (ll _).mpr (a.2.1 m), a.2.2⟩
  · intro k hk j j1 j2
    rw [F 3 (by decide) (by decide) (by decide) (by decide)] at j2
    rw [F 4 (by decide) (by decide) (by decide) (by decide)]
    refine i10 k ?_ j j1 j2
    unfold cr_lv at hk ⊢
    rw [F 5 (by decide) (by decide) (by decide) (by decide), F 8 (by decide) (by decide) (by decide) (by decide)] at hk
    exact hk
  · intro i q1 q2
    rw [e12] at q1
    rw [F17 i q1 q2, F 13 (by decide) (by decide) (by decide) (by decide), F 16 (by decide) (by decide) (by decide) (by decide), F 23 (by decide) (by decide) (by decide) (by decide)]
    exact i11 i q1 q2
  · rw [F 13 (by decide) (by decide) (by decide) (by decide)]; exact i12
theorem iv_nm.cg (h : iv_nm s) (e12 : s'.1 12 = s.1 12) (a5 : s'.2.1 5 = s.2.1 5) (a7 : s'.2.1 7 = s.2.1 7) (a13 : s'.2.1 13 = s.2.1 13) (a21 : s'.2.1 21 = s.2.1 21) : iv_nm s' := by
  refine ⟨fun j j1 j2 j3 => ?_, by rw [a21]; exact h.2⟩
  rw [mo_hold_cg e12 a5 a7 a13 a21]
  exact h.1 j j1 j2 (by rw [← a5]; exact j3)
theorem Iv.cg (h : Iv s) (e : cr_eq s s') : Iv s' := ⟨h.1.cg e.1 e.2.1 (fun k hk _ _ _ => e.2.2.1 k hk) (fun j _ _ => by rw [e.2.2.1 17 (by decide)]), h.2.cg e.1 (e.2.2.1 5 (by decide)) (e.2.2.1 7 (by decide)) (e.2.2.1 13 (by decide)) (e.2.2.1 21 (by decide))⟩
/-- filter -/
theorem Iv.filter {i m : Int} {u v : Int64} (h : Iv s) (hi : i < s.1 12) : Iv (mo_ug (mo_ug (mo_uf (mo_uf s 17 i 1) 18 i m) 19 i u) 20 i v) := by
  have E : ∀ (f : Nat), f ≠ 17 → f ≠ 18 → (mo_ug (mo_ug (mo_uf (mo_uf s 17 i 1) 18 i m) 19 i u) 20 i v).2.1 f = s.2.1 f := by
    intro f h1 h2
    funext p
    simp only [mo_ug_2, mo_uf_2, h1, h2, false_and, if_false]
  refine ⟨h.1.cg rfl rfl (fun k hk h9 h18 h17 => E k h17 h18) (fun j j1 j2 => ?_), h.2.cg rfl (E 5 (by decide) (by decide)) (E 7 (by decide) (by decide)) (E 13 (by decide) (by decide)) (E 21 (by decide) (by decide))⟩
  simp only [mo_ug_2, mo_uf_2, Nat.reduceEqDiff, false_and, true_and, if_false]
  rw [if_neg (by omega)]
/-- a sheet of an archive is changed -/
theorem Iv.sheet {i : Int} (h : Iv s) (hi : 0 ≤ i ∧ i ≤ 9) (e1 : s'.1 12 = s.1 12 ∧ s'.1 24 = s.1 24) (hs : ∀ k, k ≠ i → mo_she s k s' k) (F : ∀ k, 5 ≤ k → k ≤ 28 → s'.2.1 k = s.2.1 k) (hu : mo_uq s' i ∧ mo_nr s'.2 i) (hn : ∀ j, 0 ≤ j → j < s'.2.1 3 i → s'.2.1 4 (8 * i + 2 * j + 1) ≤ 63) : Iv s' := by
  have nm := h.2.cg (s' := s') e1.1 (F 5 (by decide) (by decide)) (F 7 (by decide) (by decide)) (F 13 (by decide) (by decide)) (F 21 (by decide) (by decide))
  obtain ⟨⟨i1, i2, i3, i4, i5, i6, i7, i8, i9, i10, i11, i12⟩, -⟩ := h
  have ll : ∀ j, cr_ll s' j ↔ cr_ll s j := fun j => by unfold cr_ll; rw [F 5 (by decide) (by decide)]
  have ch := iv_ch (s := s) (s' := s') (fun j q => by rw [F 5 (by decide) (by decide)]; exact q) (fun j _ => by rw [F 7 (by decide) (by decide)])
  have SL : mo_SL s' := by
    refine ⟨fun a a1 a2 => ?_, fun l l1 l2 l3 => ?_⟩
    · by_cases e : a = i
      · rw [e]; exact hu
      · have q := i3.1 a a1 a2
        exact ⟨mo_she_uq (hs a e) q.1, mo_she_nr (hs a e) q.1.1 q.2⟩
    · rw [F 5 (by decide) (by decide)] at l3
      have q := i3.2 l l1 l2 l3
      unfold mo_ldr at q ⊢
      rw [F 6 (by decide) (by decide), F 8 (by decide) (by decide)]
      refine ⟨q.1, q.2.1, q.2.2.1, q.2.2.2.1, fun j j1 j2 => ?_, fun j j1 j2 => ?_⟩
      · exact mo_she_uq (hs _ (by omega)) (q.2.2.2.2.1 j j1 j2)
      · exact mo_she_nr (hs _ (by omega)) (q.2.2.2.2.1 j j1 j2).1 (q.2.2.2.2.2 j j1 j2)
  refine ⟨⟨by rw [e1.1]; exact i1, by rw [e1.2]; exact i2, SL, iv_ku i4 e1.2 (F 25 (by decide) (by decide)) (F 26 (by decide) (by decide)), ?_, ?_, ?_, ?_, ?_, ?_, ?_, ?_⟩, nm⟩
  · rw [e1.2, F 28 (by decide) (by decide)]; exact i5
  · rw [F 5 (by decide) (by decide), F 6 (by decide) (by decide), F 7 (by decide) (by decide), F 8 (by decide) (by decide)]; exact i6
  · intro l hl
    obtain ⟨n, hn⟩ := i7 l ((ll l).mp hl)
    exact ⟨n, ch n l hn⟩
  · intro i q1 q2
    rw [e1.1] at q2
    have a := i8 i q1 q2
    unfold iv_s at a ⊢
    rw [F 13 (by decide) (by decide), F 14 (by decide) (by decide), F 15 (by decide) (by decide), F 16 (by decide) (by decide), F 21 (by decide) (by decide), F 22 (by decide) (by decide), F 23 (by decide) (by decide), F 28 (by decide) (by decide), e1.2]
    exact ⟨a.1, a.2.1, a.2.2.1, a.2.2.2.1, fun m k k1 k2 => (ll _).mpr (a.2.2.2.2 m k k1 k2)⟩
  · intro c q1 q2
    rw [e1.2] at q2
    have a := i9 c q1 q2
    unfold iv_t at a ⊢
    rw [F 26 (by decide) (by decide)]
    exact ⟨a.1, fun m => (ll _).mpr (a.2.1 m), a.2.2⟩
  · intro k hk j j1 j2
    by_cases e : k = i
    · rw [e] at j2 ⊢
      exact hn j j1 j2
    · have q := hs k e
      have hk : cr_lv s.2 k := by
        unfold cr_lv at hk ⊢
        rw [F 5 (by decide) (by decide), F 8 (by decide) (by decide)] at hk
        exact hk
      have b : 0 ≤ s.2.1 3 k ∧ s.2.1 3 k ≤ 4 := by
        rcases hk with hk | ⟨l, i', k1, k2, k3, k4⟩
        · exact (i3.1 k hk.1 hk.2).1.2.1
        · rw [k4]; exact ((i3.2 l k1.1 k1.2 k2).2.2.2.2.1 i' k3.1 k3.2).2.1
      rw [q.2.1] at j2
      have e := q.2.2.2 (2 * j + 1) (by omega) (by omega)
      rw [← Int.add_assoc] at e
      rw [e]
      exact i10 k hk j j1 j2
  · rw [e1.1, F 13 (by decide) (by decide), F 16 (by decide) (by decide), F 17 (by decide) (by decide), F 23 (by decide) (by decide)]; exact i11
  · rw [F 13 (by decide) (by decide)]; exact i12
end CR20
/-! what holds of every state is kept: the calls -/
section CR21
variable {s s' : mo_S}
theorem Iv.wipe {i : Int} (h : Iv s) (hi : 0 ≤ i ∧ i ≤ 9) : Iv (mo_uf (mo_uf s 1 i 0) 3 i 0) := by
  have E : ∀ (f : Nat), f ≠ 1 → f ≠ 3 → (mo_uf (mo_uf s 1 i 0) 3 i 0).2.1 f = s.2.1 f := by
    intro f h1 h2
    rw [mo_uf_o _ h2, mo_uf_o _ h1]
  have E1 : ∀ p, (mo_uf (mo_uf s 1 i 0) 3 i 0).2.1 1 p = if p = i then 0 else s.2.1 1 p := by
    intro p
    simp only [mo_uf_2, Nat.reduceEqDiff, false_and, true_and, if_false]
  have E3 : ∀ p, (mo_uf (mo_uf s 1 i 0) 3 i 0).2.1 3 p = if p = i then 0 else s.2.1 3 p := by
    intro p
    simp only [mo_uf_2, Nat.reduceEqDiff, false_and, true_and, if_false]
  refine h.sheet hi ⟨rfl, rfl⟩ (fun k hk => ⟨by rw [E1, if_neg hk], by rw [E3, if_neg hk], fun j _ _ => by rw [E 2 (by decide) (by decide)], fun j _ _ => by rw [E 4 (by decide) (by decide)]⟩) (fun k k1 k2 => E k (by omega) (by omega)) ⟨⟨?_, ?_, ?_, ?_, ?_⟩, ?_⟩ ?_
  · rw [E1, if_pos rfl]; decide
  · rw [E3, if_pos rfl]; decide
  · intro j k q1 q2
    rw [E1, if_pos rfl] at q2
    omega
  · intro j k q1 q2
    rw [E3, if_pos rfl] at q2
    omega
  · intro k q1 q2
    rw [E3, if_pos rfl] at q2
    omega
  · intro k q1 q2
    rw [E1, if_pos rfl] at q2
    omega
  · intro k q1 q2
    rw [E3, if_pos rfl] at q2
    omega
theorem Iv.file {a n u v k N : Int} (h : Iv s) (ha : 0 ≤ a ∧ a ≤ 9) (hn : 8 ≤ n ∧ n ≤ 63) (hu : 0 ≤ u ∧ u ≤ 63) (hk : mo_lst (fun j => s.2.1 2 (24 * a + 3 * j) = n) (s.2.1 1 a) k) (k8 : k < 8) (hN : N = if s.2.1 1 a < k + 1 then k + 1 else s.2.1 1 a) : Iv (mo_filed s a n u v k N) := by
  have U := h.1.2.2.1.1 a ha.1 ha.2
  have hk0 := hk.1
  have hk1 := hk.2.1
  have b8 := U.1.1
  have hN8 : 0 ≤ N ∧ N ≤ 8 ∧ s.2.1 1 a ≤ N ∧ k < N ∧ (N = s.2.1 1 a ∨ (N = k + 1 ∧ k = s.2.1 1 a)) := by rw [hN]; split <;> omega
  have E : ∀ (f : Nat) (p : Int), f ≠ 2 → f ≠ 1 → (mo_filed s a n u v k N).2.1 f p = s.2.1 f p := by
    intro f p h1 h2
    simp only [mo_filed, mo_uf_2, mo_uz_2, h1, h2, false_and, if_false]
  have E2 : ∀ p, (mo_filed s a n u v k N).2.1 2 p = if p = 24 * a + 3 * k + 2 then v else if p = 24 * a + 3 * k + 1 then u else if p = 24 * a + 3 * k then n else s.2.1 2 p := by
    intro p
    simp only [mo_filed, mo_uf_2, mo_uz_2, Nat.reduceEqDiff, false_and, true_and, if_false]
  have E1 : ∀ p, (mo_filed s a n u v k N).2.1 1 p = if p = a then N else s.2.1 1 p := by
    intro p
    simp only [mo_filed, mo_uf_2, mo_uz_2, Nat.reduceEqDiff, false_and, true_and, if_false]
  have e0 : (mo_filed s a n u v k N).2.1 1 a = N := by rw [E1, if_pos rfl]
  have nm : ∀ j, 0 ≤ j → j < N → (mo_filed s a n u v k N).2.1 2 (24 * a + 3 * j) = if j = k then n else s.2.1 2 (24 * a + 3 * j) := by
    intro j j1 j2
    rw [E2, if_neg (by omega), if_neg (by omega)]
    by_cases e : j = k
    · rw [if_pos (by omega), if_pos e]
    · rw [if_neg (by omega), if_neg e]
  refine h.sheet ha ⟨rfl, rfl⟩ (fun q hq => ⟨by rw [E1, if_neg hq], E 3 _ (by decide) (by decide), fun j j1 j2 => by rw [E2, if_neg (by omega), if_neg (by omega), if_neg (by omega)], fun j _ _ => E 4 _ (by decide) (by decide)⟩) (fun f f1 f2 => funext (fun p => E f p (by omega) (by omega))) ⟨⟨?_, ?_, ?_, ?_, ?_⟩, ?_⟩ ?_
  · rw [e0]; omega
  · rw [E 3 _ (by decide) (by decide)]; exact U.1.2.1
  · intro i j i1 i2 j1 j2
    rw [e0] at i2 j2
    rw [nm i i1 i2, nm j j1 j2]
    have key : ∀ q, 0 ≤ q → q < s.2.1 1 a → q ≠ k → ¬ s.2.1 2 (24 * a + 3 * q) = n := by
      intro q q1 q2 q3 q4
      by_cases e : q < k
      · exact hk.2.2.1 q q1 e q4
      · have kk := hk.2.2.2 (by omega)
        exact q3 (U.1.2.2.1 q k q1 q2 hk0 (by omega) (q4.trans kk.symm))
    by_cases ei : i = k
    · rw [if_pos ei]
      by_cases ej : j = k
      · intro _; omega
      · rw [if_neg ej]
        intro e
        exact absurd e.symm (key j j1 (by omega) ej)
    · rw [if_neg ei]
      by_cases ej : j = k
      · rw [if_pos ej]
        intro e
        exact absurd e (key i i1 (by omega) ei)
      · rw [if_neg ej]
        exact U.1.2.2.1 i j i1 (by omega) j1 (by omega)
  · intro i j
    rw [E 3 _ (by decide) (by decide)]
    simp only [E 4 _ (by decide) (by decide)]
    exact U.1.2.2.2.1 i j
  · intro i
    rw [E 3 _ (by decide) (by decide)]
    simp only [E 4 _ (by decide) (by decide)]
    exact U.1.2.2.2.2 i
  · intro j j1 j2
    have j2 : j < (mo_filed s a n u v k N).2.1 1 a := j2
    rw [e0] at j2
    rw [nm j j1 j2, E2]
    by_cases e : j = k
    · rw [if_pos e, if_neg (by omega), if_pos (by omega)]
      exact ⟨hn, hu⟩
    · rw [if_neg e, if_neg (by omega), if_neg (by omega), if_neg (by omega)]
      exact U.2 j j1 (by omega)
  · intro j j1 j2
    rw [E 3 _ (by decide) (by decide)] at j2
    rw [E 4 _ (by decide) (by decide)]
    exact h.1.2.2.2.2.2.2.2.2.2.1 a (Or.inl ha) j j1 j2
theorem Iv.desc {a n u k N : Int} (h : Iv s) (ha : 0 ≤ a ∧ a ≤ 9) (hu : 0 ≤ u ∧ u ≤ 63) (hk : mo_lst (fun j => s.2.1 4 (8 * a + 2 * j) = n) (s.2.1 3 a) k) (k8 : k < 4) (hN : N = if s.2.1 3 a < k + 1 then k + 1 else s.2.1 3 a) : Iv (mo_descd s a n u k N) := by
  have U := h.1.2.2.1.1 a ha.1 ha.2
  have hk0 := hk.1
  have hk1 := hk.2.1
  have b8 := U.1.2.1
  have hN8 : 0 ≤ N ∧ N ≤ 4 ∧ s.2.1 3 a ≤ N ∧ k < N ∧ (N = s.2.1 3 a ∨ (N = k + 1 ∧ k = s.2.1 3 a)) := by rw [hN]; split <;> omega
  have E : ∀ (f : Nat) (p : Int), f ≠ 4 → f ≠ 3 → (mo_descd s a n u k N).2.1 f p = s.2.1 f p := by
    intro f p h1 h2
    simp only [mo_descd, mo_uf_2, mo_uz_2, h1, h2, false_and, if_false]
  have E2 : ∀ p, (mo_descd s a n u k N).2.1 4 p = if p = 8 * a + 2 * k + 1 then u else if p = 8 * a + 2 * k then n else s.2.1 4 p := by
    intro p
    simp only [mo_descd, mo_uf_2, mo_uz_2, Nat.reduceEqDiff, false_and, true_and, if_false]
  have E1 : ∀ p, (mo_descd s a n u k N).2.1 3 p = if p = a then N else s.2.1 3 p := by
    intro p
    simp only [mo_descd, mo_uf_2, mo_uz_2, Nat.reduceEqDiff, false_and, true_and, if_false]
  have e0 : (mo_descd s a n u k N).2.1 3 a = N := by rw [E1, if_pos rfl]
  have nm : ∀ j, 0 ≤ j → j < N → (mo_descd s a n u k N).2.1 4 (8 * a + 2 * j) = if j = k then n else s.2.1 4 (8 * a + 2 * j) := by
    intro j j1 j2
    rw [E2, if_neg (by omega)]
    by_cases e : j = k
    · rw [if_pos (by omega), if_pos e]
    · rw [if_neg (by omega), if_neg e]
  have nv : ∀ j, 0 ≤ j → j < N → (mo_descd s a n u k N).2.1 4 (8 * a + 2 * j + 1) = if j = k then u else s.2.1 4 (8 * a + 2 * j + 1) := by
    intro j j1 j2
    rw [E2]
    by_cases e : j = k
    · rw [if_pos (by omega), if_pos e]
    · rw [if_neg (by omega), if_neg (by omega), if_neg e]
  refine h.sheet ha ⟨rfl, rfl⟩ (fun q hq => ⟨E 1 _ (by decide) (by decide), by rw [E1, if_neg hq], fun j _ _ => E 2 _ (by decide) (by decide), fun j j1 j2 => by rw [E2, if_neg (by omega), if_neg (by omega)]⟩) (fun f f1 f2 => funext (fun p => E f p (by omega) (by omega))) ⟨⟨?_, ?_, ?_, ?_, ?_⟩, ?_⟩ ?_
  · rw [E 1 _ (by decide) (by decide)]; exact U.1.1
  · rw [e0]; omega
  · intro i j
    rw [E 1 _ (by decide) (by decide)]
    simp only [E 2 _ (by decide) (by decide)]
    exact U.1.2.2.1 i j
  · intro i j i1 i2 j1 j2
    rw [e0] at i2 j2
    rw [nm i i1 i2, nm j j1 j2]
    have key : ∀ q, 0 ≤ q → q < s.2.1 3 a → q ≠ k → ¬ s.2.1 4 (8 * a + 2 * q) = n := by
      intro q q1 q2 q3 q4
      by_cases e : q < k
      · exact hk.2.2.1 q q1 e q4
      · have kk := hk.2.2.2 (by omega)
        exact q3 (U.1.2.2.2.1 q k q1 q2 hk0 (by omega) (q4.trans kk.symm))
    by_cases ei : i = k
    · rw [if_pos ei]
      by_cases ej : j = k
      · intro _; omega
      · rw [if_neg ej]
        intro e
        exact absurd e.symm (key j j1 (by omega) ej)
    · rw [if_neg ei]
      by_cases ej : j = k
      · rw [if_pos ej]
        intro e
        exact absurd e (key i i1 (by omega) ei)
      · rw [if_neg ej]
        exact U.1.2.2.2.1 i j i1 (by omega) j1 (by omega)
  · intro i i1 i2
    rw [e0] at i2
    rw [nv i i1 i2]
    by_cases ei : i = k
    · rw [if_pos ei]; exact hu.1
    · rw [if_neg ei]; exact U.1.2.2.2.2 i i1 (by omega)
  · intro j j1 j2
    have j2 : j < (mo_descd s a n u k N).2.1 1 a := j2
    rw [E 1 _ (by decide) (by decide)] at j2
    simp only [E 2 _ (by decide) (by decide)]
    exact U.2 j j1 j2
  · intro j j1 j2
    rw [e0] at j2
    rw [nv j j1 j2]
    by_cases ei : j = k
    · rw [if_pos ei]; exact hu.2
    · rw [if_neg ei]; exact h.1.2.2.2.2.2.2.2.2.2.1 a (Or.inl ha) j j1 (by omega)
/-- a scope is changed: the loaders, sheets and types are not -/
theorem Iv0.scope (h : Iv0 s) (e24 : s'.1 24 = s.1 24) (h12 : 1 ≤ s'.1 12 ∧ s'.1 12 ≤ 12) (F : ∀ k, k ≤ 8 ∨ (25 ≤ k ∧ k ≤ 28) → s'.2.1 k = s.2.1 k) (hs : ∀ i, 0 ≤ i → i < s'.1 12 → iv_s s' i) (hz : ∀ i, s'.1 12 ≤ i → i ≤ 11 → s'.2.1 13 i = 0 ∧ s'.2.1 16 (2 * i) = 0 ∧ s'.2.1 16 (2 * i + 1) = 0 ∧ s'.2.1 17 i = 0 ∧ s'.2.1 23 i = 0) (h0 : s'.2.1 13 0 = 1) : Iv0 s' := by
  obtain ⟨i1, i2, i3, i4, i5, i6, i7, i8, i9, i10, i11, i12⟩ := h
  have ll : ∀ j, cr_ll s' j ↔ cr_ll s j := fun j => by unfold cr_ll; rw [F 5 (by decide)]
  have ch := iv_ch (s := s) (s' := s') (fun j q => by rw [F 5 (by decide)]; exact q) (fun j _ => by rw [F 7 (by decide)])
  refine ⟨h12, by rw [e24]; exact i2, iv_SL i3 (fun k hk => F k (Or.inl hk)), iv_ku i4 e24 (F 25 (by decide)) (F 26 (by decide)), ?_, ?_, ?_, hs, ?_, ?_, hz, h0⟩
  · rw [e24, F 28 (by decide)]; exact i5
  · rw [F 5 (by decide), F 6 (by decide), F 7 (by decide), F 8 (by decide)]; exact i6
  · intro l hl
    obtain ⟨n, hn⟩ := i7 l ((ll l).mp hl)
    exact ⟨n, ch n l hn⟩
  · intro c q1 q2
    rw [e24] at q2
    have a := i9 c q1 q2
    unfold iv_t at a ⊢
    rw [F 26 (by decide)]
    exact ⟨a.1, fun m => (ll _).mpr (a.2.1 m), a.2.2⟩
  · intro k hk j j1 j2
    rw [F 3 (by decide)] at j2
    rw [F 4 (by decide)]
    refine i10 k ?_ j j1 j2
    unfold cr_lv at hk ⊢
    rw [F 5 (by decide), F 8 (by decide)] at hk
    exact hk
theorem Iv.add {i e m : Int} (h : Iv s) (hi : 0 ≤ i ∧ i < s.1 12) (he : e = 0 ∨ e = 1) (hm : 0 ≤ m ∧ m ≤ 9) (h4 : s.2.1 16 (2 * i + e) < 4) : Iv (mo_added s i e m) := by
  have E : ∀ (f : Nat), f ≠ 15 → f ≠ 16 → (mo_added s i e m).2.1 f = s.2.1 f := by
    intro f h1 h2
    rw [mo_uf_o _ h2, mo_uf_o _ h1]
  have E5 : ∀ p, (mo_added s i e m).2.1 15 p = if p = 4 * (2 * i + e) + s.2.1 16 (2 * i + e) then m else s.2.1 15 p := by
    intro p
    simp only [mo_added, mo_uf_2, Nat.reduceEqDiff, false_and, true_and, if_false]
  have E6 : ∀ p, (mo_added s i e m).2.1 16 p = if p = 2 * i + e then s.2.1 16 (2 * i + e) + 1 else s.2.1 16 p := by
    intro p
    simp only [mo_added, mo_uf_2, Nat.reduceEqDiff, false_and, true_and, if_false]
  refine ⟨h.1.scope rfl h.1.1 (fun k hk => E k (by omega) (by omega)) (fun j j1 j2 => ?_) (fun j j1 j2 => ?_) ?_, h.2.cg rfl (E 5 (by decide) (by decide)) (E 7 (by decide) (by decide)) (E 13 (by decide) (by decide)) (E 21 (by decide) (by decide))⟩
  · have a := h.1.2.2.2.2.2.2.2.1 j j1 j2
    unfold iv_s at a ⊢
    rw [E 13 (by decide) (by decide), E 14 (by decide) (by decide), E 21 (by decide) (by decide), E 22 (by decide) (by decide), E 23 (by decide) (by decide), E 28 (by decide) (by decide)]
    refine ⟨a.1, a.2.1, fun w hw => ?_, a.2.2.2.1, fun m k k1 k2 => ?_⟩
    · have aw := a.2.2.1 w hw
      rw [E6]
      by_cases ew : 2 * j + w = 2 * i + e
      · have wi : j = i ∧ w = e := by omega
        rw [if_pos ew]
        rw [wi.1, wi.2] at aw ⊢
        refine ⟨by omega, fun k k1 k2 => ?_⟩
        rw [E5]
        by_cases ek : k = s.2.1 16 (2 * i + e)
        · rw [if_pos (by omega)]; exact hm
        · rw [if_neg (by omega)]; exact aw.2 k k1 (by omega)
      · rw [if_neg ew]
        refine ⟨aw.1, fun k k1 k2 => ?_⟩
        rw [E5, if_neg (by have b := (h.1.2.2.2.2.2.2.2.1 i hi.1 hi.2).2.2.1 e he; omega)]
        exact aw.2 k k1 k2
    · have q := a.2.2.2.2 m k k1 k2
      exact ⟨q.1, by rw [E 5 (by decide) (by decide)]; exact q.2⟩
  · have a := h.1.2.2.2.2.2.2.2.2.2.2.1 j j1 j2
    have j1 : s.1 12 ≤ j := j1
    rw [E 13 (by decide) (by decide), E6, E6, E 17 (by decide) (by decide), E 23 (by decide) (by decide), if_neg (by omega), if_neg (by omega)]
    exact a
  · rw [E 13 (by decide) (by decide)]; exact h.1.2.2.2.2.2.2.2.2.2.2.2
theorem Iv.child {p : Int} (h : Iv s) (hp : 0 ≤ p ∧ p < s.1 12) (h12 : s.1 12 < 12) : Iv (mo_uz (mo_uf s 14 (s.1 12) p) 12 (s.1 12 + 1)) := by
  have E : ∀ (f : Nat), f ≠ 14 → (mo_uz (mo_uf s 14 (s.1 12) p) 12 (s.1 12 + 1)).2.1 f = s.2.1 f := fun f hf => mo_uf_o s hf _ _
  have E14 : ∀ q, (mo_uz (mo_uf s 14 (s.1 12) p) 12 (s.1 12 + 1)).2.1 14 q = if q = s.1 12 then p else s.2.1 14 q := by
    intro q
    rw [mo_uz_2, mo_uf_2]
    simp only [true_and]
  have e12 : (mo_uz (mo_uf s 14 (s.1 12) p) 12 (s.1 12 + 1)).1 12 = s.1 12 + 1 := rfl
  have i1 := h.1.1
  have z := h.1.2.2.2.2.2.2.2.2.2.2.1
  refine ⟨h.1.scope rfl (by rw [e12]; omega) (fun k hk => E k (by omega)) (fun j j1 j2 => ?_) (fun j j1 j2 => ?_) ?_, fun j j1 j2 j3 => ?_, by rw [E 21 (by decide)]; exact h.2.2⟩
  · rw [e12] at j2
    unfold iv_s
    rw [E14, E 13 (by decide), E 15 (by decide), E 16 (by decide), E 21 (by decide), E 22 (by decide), E 23 (by decide), E 28 (by decide)]
    by_cases e : j = s.1 12
    · have zz := z j (by omega) (by omega)
      rw [if_pos e, zz.1, zz.2.2.2.2]
      refine ⟨by decide, fun _ => by omega, fun w hw => ?_, ⟨by decide, fun k k1 k2 => absurd k2 (by omega)⟩, fun m => absurd m (by decide)⟩
      rcases hw with hw | hw
      · rw [hw, Int.add_zero, zz.2.1]; exact ⟨by decide, fun k k1 k2 => absurd k2 (by omega)⟩
      · rw [hw, zz.2.2.1]; exact ⟨by decide, fun k k1 k2 => absurd k2 (by omega)⟩
    · rw [if_neg e]
      have a := h.1.2.2.2.2.2.2.2.1 j j1 (by omega)
      exact ⟨a.1, a.2.1, a.2.2.1, a.2.2.2.1, fun m k k1 k2 => ⟨(a.2.2.2.2 m k k1 k2).1, by rw [E 5 (by decide)]; exact (a.2.2.2.2 m k k1 k2).2⟩⟩
  · rw [e12] at j1
    rw [E 13 (by decide), E 16 (by decide), E 17 (by decide), E 23 (by decide)]
    exact z j (by omega) j2
  · rw [E 13 (by decide)]; exact h.1.2.2.2.2.2.2.2.2.2.2.2
  · rw [E 5 (by decide)] at j3
    rw [mo_hold_kid i1.1 (z (s.1 12) (by omega) (by omega)).1]
    exact h.2.1 j j1 j2 j3
theorem Iv.app {c ty : Int} (h : Iv s) (hc : 0 ≤ c ∧ c < s.1 12) (h8 : s.2.1 23 c < 8) (hty : 0 ≤ ty ∧ ty < s.1 24) (hd : mo_dsc (s.2.1 28) ty 1) : Iv (mo_uf (mo_uf s 22 (8 * c + s.2.1 23 c) ty) 23 c (s.2.1 23 c + 1)) := by
  have E : ∀ f, f ≠ 22 → f ≠ 23 → (mo_uf (mo_uf s 22 (8 * c + s.2.1 23 c) ty) 23 c (s.2.1 23 c + 1)).2.1 f = s.2.1 f := by
    intro f h1 h2
    rw [mo_uf_o _ h2, mo_uf_o _ h1]
  have E22 : ∀ p, (mo_uf (mo_uf s 22 (8 * c + s.2.1 23 c) ty) 23 c (s.2.1 23 c + 1)).2.1 22 p = if p = 8 * c + s.2.1 23 c then ty else s.2.1 22 p := by
    intro p
    simp only [mo_uf_2, Nat.reduceEqDiff, false_and, true_and, if_false]
  have E23 : ∀ p, (mo_uf (mo_uf s 22 (8 * c + s.2.1 23 c) ty) 23 c (s.2.1 23 c + 1)).2.1 23 p = if p = c then s.2.1 23 c + 1 else s.2.1 23 p := by
    intro p
    simp only [mo_uf_2, Nat.reduceEqDiff, false_and, true_and, if_false]
  have bc := (h.1.2.2.2.2.2.2.2.1 c hc.1 hc.2).2.2.2.1.1
  refine ⟨h.1.scope rfl h.1.1 (fun k hk => E k (by omega) (by omega)) (fun j j1 j2 => ?_) (fun j j1 j2 => ?_) ?_, h.2.cg rfl (E 5 (by decide) (by decide)) (E 7 (by decide) (by decide)) (E 13 (by decide) (by decide)) (E 21 (by decide) (by decide))⟩
  · have a := h.1.2.2.2.2.2.2.2.1 j j1 j2
    unfold iv_s at a ⊢
    rw [E 13 (by decide) (by decide), E 14 (by decide) (by decide), E 15 (by decide) (by decide), E 16 (by decide) (by decide), E 21 (by decide) (by decide), E23, E 28 (by decide) (by decide)]
    refine ⟨a.1, a.2.1, a.2.2.1, ?_, fun m k k1 k2 => ⟨(a.2.2.2.2 m k k1 k2).1, by rw [E 5 (by decide) (by decide)]; exact (a.2.2.2.2 m k k1 k2).2⟩⟩
    by_cases e : j = c
    · rw [if_pos e]
      rw [e] at a ⊢
      refine ⟨by omega, fun k k1 k2 => ?_⟩
      rw [E22]
      by_cases ek : k = s.2.1 23 c
      · rw [if_pos (by omega)]; exact ⟨hty, hd⟩
      · rw [if_neg (by omega)]; exact a.2.2.2.1.2 k k1 (by omega)
    · rw [if_neg e]
      refine ⟨a.2.2.2.1.1, fun k k1 k2 => ?_⟩
      have := a.2.2.2.1.1
      rw [E22, if_neg (by omega)]
      exact a.2.2.2.1.2 k k1 k2
  · have a := h.1.2.2.2.2.2.2.2.2.2.2.1 j j1 j2
    have j1 : s.1 12 ≤ j := j1
    rw [E 13 (by decide) (by decide), E 16 (by decide) (by decide), E 17 (by decide) (by decide), E23, if_neg (by omega)]
    exact a
  · rw [E 13 (by decide) (by decide)]; exact h.1.2.2.2.2.2.2.2.2.2.2.2
end CR21
/-! what holds of every state is kept: lock, release, load -/
section CR22
variable {s s' : mo_S}
theorem Iv.lock {c e u l p : Int} {s1 s2 s3 : mo_S} (h : Iv s) (hg : cr_gb s) (hc : 1 ≤ c ∧ c < s.1 12) (h13 : s.2.1 13 c ≤ 0) (hp : cr_ll s p) (d1 : mo_dR s (8 * c + 4 * 1) (s.2.1 16 (2 * c + 1)) p e s1) (d2 : mo_fR s1 c e u s2) (d3 : mo_dR s2 (8 * c + 4 * 0) (s.2.1 16 (2 * c + 0)) e l s3) : Iv (mo_lkd s3 c e u l) := by
  have iv := h.1.2.2.2.2.2.2.2.1 c (by omega) hc.2
  have p1 := iv.2.2.1 1 (Or.inr rfl)
  have p0 := iv.2.2.1 0 (Or.inl rfl)
  have K := mo_dR_kp h.1 hg hp p1.1 p1.2 d1
  have L := mo_fR_kp K.1 K.2.1 K.2.2.1 d2
  have kF2 := fun k hk => ((L.2.2.2.2.1 k hk).1).trans ((K.2.2.2.2.1 k hk).1)
  have le2 : cr_ll s2 e := ⟨K.2.2.1.1, L.2.2.2.1 _ K.2.2.1.2⟩
  have N := mo_dR_kp L.1 L.2.1 le2 p0.1 (by rw [kF2 15 (by decide)]; exact p0.2) d3
  have kF := fun k hk => ((N.2.2.2.2.1 k hk).1).trans (kF2 k hk)
  have k1 := N.2.2.2.2.2.1.trans (L.2.2.2.2.2.1.trans K.2.2.2.2.2.1)
  have l1 : cr_ll s3 e := ⟨le2.1, N.2.2.2.1 _ le2.2⟩
  have l2 : cr_ll s3 u := ⟨L.2.2.1.1, N.2.2.2.1 _ L.2.2.1.2⟩
  have l3 : cr_ll s3 l := N.2.2.1
  have k13 : s3.2.1 13 c ≤ 0 := by rw [kF 13 (by decide)]; exact h13
  have iv3 := N.1.2.2.2.2.2.2.2.1
  have E := fun f (h1 : f ≠ 21) (h2 : f ≠ 13) => mo_lkd_o s3 c e u l h1 h2
  have e12 : (mo_lkd s3 c e u l).1 12 = s3.1 12 := rfl
  refine ⟨N.1.scope rfl N.1.1 (fun k hk => E k (by omega) (by omega)) (fun j j1 j2 => ?_) (fun j j1 j2 => ?_) ?_, fun j j1 j2 j3 => ?_, fun k q1 q2 => ?_⟩
  · have a := iv3 j j1 j2
    unfold iv_s at a ⊢
    rw [E 14 (by decide) (by decide), E 15 (by decide) (by decide), E 16 (by decide) (by decide), E 22 (by decide) (by decide), E 23 (by decide) (by decide), E 28 (by decide) (by decide), mo_lkd_13]
    have ll : ∀ q, cr_ll s3 q → cr_ll (mo_lkd s3 c e u l) q := fun q hq => ⟨hq.1, by rw [E 5 (by decide) (by decide)]; exact hq.2⟩
    refine ⟨by split <;> first | decide | exact a.1, a.2.1, a.2.2.1, a.2.2.2.1, fun m k k1 k2 => ?_⟩
    rw [mo_lkd_21]
    by_cases ej : j = c
    · have : k = 0 ∨ k = 1 ∨ k = 2 := by omega
      rcases this with ek | ek | ek
      · rw [if_neg (by omega), if_neg (by omega), if_pos (by omega)]; exact ll _ l1
      · rw [if_neg (by omega), if_pos (by omega)]; exact ll _ l2
      · rw [if_pos (by omega)]; exact ll _ l3
    · rw [if_neg ej] at m
      rw [if_neg (by omega), if_neg (by omega), if_neg (by omega)]
      exact ll _ (a.2.2.2.2 m k k1 k2)
  · have a := N.1.2.2.2.2.2.2.2.2.2.2.1 j j1 j2
    rw [e12, k1] at j1
    rw [mo_lkd_13, if_neg (by omega), E 16 (by decide) (by decide), E 17 (by decide) (by decide), E 23 (by decide) (by decide)]
    exact a
  · rw [mo_lkd_13, if_neg (by omega)]; exact N.1.2.2.2.2.2.2.2.2.2.2.2
  · rw [E 5 (by decide) (by decide)] at j3
    rw [mo_hold_lkd ⟨hc.1, by rw [k1]; exact hc.2⟩ (by omega)]
    have b := mo_hold_b (s := s3) j (by rw [k1]; exact h.1.1)
    have q1 := cr_q_b e j
    have q2 := cr_q_b u j
    have q3 := cr_q_b l j
    by_cases n3 : s2.2.1 5 j = 0
    · rw [← N.2.2.2.2.2.2.2.2 j n3 j3, cr_q_s] at *
      omega
    · by_cases n2 : s1.2.1 5 j = 0
      · have ej := L.2.2.2.2.2.2.2.2 j n2 n3
        rw [← ej, cr_q_s]
        omega
      · by_cases n1 : s.2.1 5 j = 0
        · have ej := K.2.2.2.2.2.2.2.2 j n1 n2
          rw [← ej, cr_q_s]
          omega
        · have a := h.2.1 j j1 j2 n1
          have b1 := K.2.2.2.2.2.2.2.1 j
          have b2 := L.2.2.2.2.2.2.2.1 j
          have b3 := N.2.2.2.2.2.2.2.1 j
          omega
  · rw [mo_lkd_21, if_neg (by omega), if_neg (by omega), if_neg (by omega), kF 21 (by decide)]
    exact h.2.2 k q1 q2
theorem mo_hs_pos {l i k : Int} (hi : 1 ≤ i) (h13 : s.2.1 13 i = 1) (hk : 0 ≤ k ∧ k < 3) (h21 : s.2.1 21 (3 * i + k) = l) : ∀ n : Nat, i ≤ (n : Int) → 1 ≤ mo_hs s l n := by
  intro n
  induction n with
  | zero => intro h; omega
  | succ n ih =>
    intro h
    rw [mo_hs]
    have b := mo_hs_b s l n
    have b3 := mo_h3_b s l ((n : Int) + 1) 3
    by_cases e : (n : Int) + 1 = i
    · rw [e, if_pos h13, mo_h3_3]
      have q1 := cr_q_b (s.2.1 21 (3 * i)) l
      have q2 := cr_q_b (s.2.1 21 (3 * i + 1)) l
      have q3 := cr_q_b (s.2.1 21 (3 * i + 2)) l
      have : k = 0 ∨ k = 1 ∨ k = 2 := by omega
      rcases this with ek | ek | ek
      · rw [ek, Int.add_zero] at h21; rw [h21, cr_q_s] at *; omega
      · rw [ek] at h21; rw [h21, cr_q_s] at *; omega
      · rw [ek] at h21; rw [h21, cr_q_s] at *; omega
    · have := ih (by omega)
      split <;> omega
theorem Iv0.rem {l : Int} (h : Iv0 s) (hz : ∀ k, 0 ≤ k → k < 3 → s.2.1 21 k = 0) (hr : mo_rok s l) : Iv0 (mo_rem s l) := by
  obtain ⟨i1, i2, i3, i4, i5, i6, i7, i8, i9, i10, i11, i12⟩ := h
  have F := fun k (h5 : k ≠ 5) (h26 : k ≠ 26) => mo_rem_o s l h5 h26
  have e5 : ∀ j, (mo_rem s l).2.1 5 j = if j = l then 0 else s.2.1 5 j := fun j => by rw [mo_rem_5]
  have e1 : (mo_rem s l).1 = s.1 := rfl
  have hb := mo_hold_b (s := s) l i1
  have hno : ∀ j, 1 ≤ j → j ≤ 40 → ¬ s.2.1 5 j = 0 → ¬ s.2.1 7 j = l := fun j j1 j2 j3 j4 => by
    have := mo_hold_pos ⟨j1, j2⟩ j3 j4
    have := hr.2.2
    omega
  have ll : ∀ j, cr_ll s j → j ≠ l → cr_ll (mo_rem s l) j := fun j hj e => ⟨hj.1, by rw [e5, if_neg e]; exact hj.2⟩
  have lr : ∀ j, cr_ll (mo_rem s l) j → cr_ll s j ∧ j ≠ l := fun j hj => by
    have := hj.2
    rw [e5] at this
    by_cases e : j = l
    · rw [if_pos e] at this; exact absurd rfl this
    · rw [if_neg e] at this; exact ⟨⟨hj.1, this⟩, e⟩
  refine ⟨i1, i2, ?_, ?_, ?_, ?_, ?_, ?_, ?_, ?_, ?_, ?_⟩
  · refine ⟨fun a a1 a2 => ?_, fun j j1 j2 j3 => ?_⟩
    · have q := i3.1 a a1 a2
      unfold mo_uq mo_nr at q ⊢
      rw [F 1 (by decide) (by decide), F 2 (by decide) (by decide), F 3 (by decide) (by decide), F 4 (by decide) (by decide)]
      exact q
    · have q := i3.2 j j1 j2 ((lr j ⟨⟨by omega, j2⟩, j3⟩).1).2
      unfold mo_ldr mo_uq mo_nr at q ⊢
      have e : ∀ k, (mo_s0 (mo_rem s l).2).2.1 k = (mo_rem s l).2.1 k := fun _ => rfl
      have e' : ∀ k, (mo_s0 s.2).2.1 k = s.2.1 k := fun _ => rfl
      simp only [e]
      simp only [e'] at q
      rw [F 1 (by decide) (by decide), F 2 (by decide) (by decide), F 3 (by decide) (by decide), F 4 (by decide) (by decide), F 6 (by decide) (by decide), F 8 (by decide) (by decide)]
      exact q
  · intro a b c c' q1 q2 q3
    unfold mo_kn at q2 q3
    rw [e1, mo_rem_26, F 25 (by decide) (by decide)] at q2 q3
    have back : ∀ c, 8 ≤ c ∧ c < s.1 24 ∧ (if (8 ≤ c ∧ c < s.1 24) ∧ s.2.1 26 c = l then -1 else s.2.1 26 c) = a ∧ s.2.1 25 c = b → mo_kn s.2 (s.1 24) a b c := by
      rintro c ⟨k1, k2, k3, k4⟩
      by_cases e : (8 ≤ c ∧ c < s.1 24) ∧ s.2.1 26 c = l
      · rw [if_pos e] at k3; omega
      · rw [if_neg e] at k3; exact ⟨k1, k2, k3, k4⟩
    exact i4 a b c c' q1 (back c q2) (back c' q3)
  · rw [e1, F 28 (by decide) (by decide)]; exact i5
  · rw [e5, if_neg (by have := hr.1.1; omega), F 6 (by decide) (by decide), F 7 (by decide) (by decide), F 8 (by decide) (by decide)]; exact i6
  · intro j hj
    obtain ⟨a, b⟩ := lr j hj
    obtain ⟨n, hn⟩ := i7 j a
    exact ⟨n, cr_ch_rem hno n j hn b⟩
  · intro i q1 q2
    have a := i8 i q1 q2
    unfold iv_s at a ⊢
    rw [F 13 (by decide) (by decide), F 14 (by decide) (by decide), F 15 (by decide) (by decide), F 16 (by decide) (by decide), F 21 (by decide) (by decide), F 22 (by decide) (by decide), F 23 (by decide) (by decide), F 28 (by decide) (by decide), e1]
    refine ⟨a.1, a.2.1, a.2.2.1, a.2.2.2.1, fun m k k1 k2 => ll _ (a.2.2.2.2 m k k1 k2) (fun e => ?_)⟩
    by_cases i0 : i = 0
    · rw [i0, show 3 * (0 : Int) + k = k by omega, hz k k1 k2] at e
      have := hr.1.1
      omega
    · have p := mo_hs_pos (s := s) (l := l) (by omega) m ⟨k1, k2⟩ e (s.1 12 - 1).toNat (by have : i < s.1 12 := q2; omega)
      have b := mo_hk_b s l 40
      have := hr.2.2
      unfold mo_hold at this
      split at this <;> omega
  · intro c q1 q2
    have a := i9 c q1 q2
    unfold iv_t at a ⊢
    rw [mo_rem_26]
    by_cases e : (8 ≤ c ∧ c < s.1 24) ∧ s.2.1 26 c = l
    · rw [if_pos e]
      exact ⟨by decide, fun m => absurd m (by decide), fun m => absurd e.1.1 (by omega)⟩
    · rw [if_neg e]
      refine ⟨a.1, fun m => ll _ (a.2.1 m) (fun m2 => ?_), a.2.2⟩
      by_cases c8 : c < 8
      · rw [a.2.2 c8] at m2
        have := hr.1.1
        omega
      · exact e ⟨⟨by omega, q2⟩, m2⟩
  · intro k hk j j1 j2
    rw [F 3 (by decide) (by decide)] at j2
    rw [F 4 (by decide) (by decide)]
    refine i10 k ?_ j j1 j2
    rcases hk with hk | ⟨l', i, k1, k2, k3, k4⟩
    · exact Or.inl hk
    · rw [F 8 (by decide) (by decide)] at k3
      exact Or.inr ⟨l', i, k1, ((lr l' ⟨⟨by omega, k1.2⟩, k2⟩).1).2, k3, k4⟩
  · rw [e1, F 13 (by decide) (by decide), F 16 (by decide) (by decide), F 17 (by decide) (by decide), F 23 (by decide) (by decide)]; exact i11
  · rw [F 13 (by decide) (by decide)]; exact i12
theorem Iv0.rml : ∀ (D : List Int) (s : mo_S), Iv0 s → (∀ k, 0 ≤ k → k < 3 → s.2.1 21 k = 0) → mo_rv s D → Iv0 (mo_rml s D) := by
  intro D
  induction D with
  | nil => exact fun s h _ _ => h
  | cons l D ih => exact fun s h hz hv => ih (mo_rem s l) (h.rem hz hv.1) (by rw [mo_rem_o s l (by decide) (by decide)]; exact hz) hv.2
theorem Iv.release {c : Int} {D : List Int} (h : Iv s) (hc : 1 ≤ c ∧ c < s.1 12) (hv : mo_rv (mo_uf s 13 c 2) D) (hn : mo_nm (mo_rml (mo_uf s 13 c 2) D)) : Iv (mo_rml (mo_uf s 13 c 2) D) := by
  have E : ∀ f, f ≠ 13 → (mo_uf s 13 c 2).2.1 f = s.2.1 f := fun f hf => mo_uf_o s hf _ _
  have E13 : ∀ p, (mo_uf s 13 c 2).2.1 13 p = if p = c then 2 else s.2.1 13 p := by
    intro p
    rw [mo_uf_2]
    simp only [true_and]
  have hz : ∀ k, 0 ≤ k → k < 3 → (mo_uf s 13 c 2).2.1 21 k = 0 := by rw [E 21 (by decide)]; exact h.2.2
  have I : Iv0 (mo_uf s 13 c 2) := by
    refine h.1.scope rfl h.1.1 (fun k hk => E k (by omega)) (fun j j1 j2 => ?_) (fun j j1 j2 => ?_) ?_
    · have a := h.1.2.2.2.2.2.2.2.1 j j1 j2
      unfold iv_s at a ⊢
      rw [E 14 (by decide), E 15 (by decide), E 16 (by decide), E 21 (by decide), E 22 (by decide), E 23 (by decide), E 28 (by decide), E13]
      refine ⟨by split <;> first | decide | exact a.1, a.2.1, a.2.2.1, a.2.2.2.1, fun m k k1 k2 => ?_⟩
      by_cases ej : j = c
      · rw [if_pos ej] at m; omega
      · rw [if_neg ej] at m
        exact ⟨(a.2.2.2.2 m k k1 k2).1, by rw [E 5 (by decide)]; exact (a.2.2.2.2 m k k1 k2).2⟩
    · have a := h.1.2.2.2.2.2.2.2.2.2.2.1 j j1 j2
      have j1 : s.1 12 ≤ j := j1
      rw [E13, if_neg (by omega), E 16 (by decide), E 17 (by decide), E 23 (by decide)]
      exact a
    · rw [E13, if_neg (by omega)]; exact h.1.2.2.2.2.2.2.2.2.2.2.2
  refine ⟨Iv0.rml D _ I hz hv, hn, ?_⟩
  rw [(mo_rml_o D (mo_uf s 13 c 2)).2.2 21 (by decide) (by decide)]
  exact hz
end CR22
/-! what holds of every state is kept: load -/
section CR23
variable {s s' : mo_S}
theorem Iv0.psh {l f ty : Int} (h : Iv0 s) (hl : cr_ll s l) (h24 : s.1 24 < 120) (hty : 0 ≤ ty ∧ ty < s.1 24) (hk : ∀ c, ¬ mo_kn s.2 (s.1 24) l (s.2.1 2 f) c) : Iv0 (mo_psh s (l, f) ty) := by
  obtain ⟨i1, i2, i3, i4, i5, i6, i7, i8, i9, i10, i11, i12⟩ := h
  have F := fun k (hk : k ≤ 24) => mo_psh_o s (l, f) ty hk
  have e24 : (mo_psh s (l, f) ty).1 24 = s.1 24 + 1 := rfl
  have e12 : (mo_psh s (l, f) ty).1 12 = s.1 12 := rfl
  have ll : ∀ j, cr_ll (mo_psh s (l, f) ty) j ↔ cr_ll s j := fun j => by unfold cr_ll; rw [F 5 (by decide)]
  have ch := iv_ch (s := s) (s' := mo_psh s (l, f) ty) (fun j q => by rw [F 5 (by decide)]; exact q) (fun j _ => by rw [F 7 (by decide)])
  refine ⟨i1, by rw [e24]; omega, iv_SL i3 (fun k hk => F k (by omega)), ?_, ?_, ?_, ?_, ?_, ?_, ?_, ?_, ?_⟩
  · intro a b c c' q1 q2 q3
    unfold mo_kn at q2 q3
    rw [e24, mo_psh_25, mo_psh_26] at q2 q3
    have t : ∀ c, 8 ≤ c ∧ c < s.1 24 + 1 ∧ (if c = s.1 24 then l else s.2.1 26 c) = a ∧ (if c = s.1 24 then s.2.1 2 f else s.2.1 25 c) = b → (c = s.1 24 ∧ l = a ∧ s.2.1 2 f = b) ∨ mo_kn s.2 (s.1 24) a b c := by
      rintro c ⟨k1, k2, k3, k4⟩
      by_cases e : c = s.1 24
      · rw [if_pos e] at k3 k4; exact Or.inl ⟨e, k3, k4⟩
      · rw [if_neg e] at k3 k4; exact Or.inr ⟨k1, by omega, k3, k4⟩
    rcases t c q2 with u | u <;> rcases t c' q3 with v | v
    · omega
    · exact absurd (by rw [u.2.1, u.2.2]; exact v) (hk c')
    · exact absurd (by rw [v.2.1, v.2.2]; exact u) (hk c)
    · exact i4 a b c c' q1 u v
  · intro c q1 q2
    rw [e24] at q2
    rw [mo_psh_28]
    by_cases e : c = s.1 24
    · rw [if_pos e]; omega
    · rw [if_neg e]; exact i5 c q1 (by omega)
  · rw [F 5 (by decide), F 6 (by decide), F 7 (by decide), F 8 (by decide)]; exact i6
  · intro j hj
    obtain ⟨n, hn⟩ := i7 j ((ll j).mp hj)
    exact ⟨n, ch n j hn⟩
  · intro i q1 q2
    have a := i8 i q1 q2
    unfold iv_s at a ⊢
    rw [F 13 (by decide), F 14 (by decide), F 15 (by decide), F 16 (by decide), F 21 (by decide), F 22 (by decide), F 23 (by decide), e24]
    refine ⟨a.1, a.2.1, a.2.2.1, ⟨a.2.2.2.1.1, fun k k1 k2 => ?_⟩, fun m k k1 k2 => (ll _).mpr (a.2.2.2.2 m k k1 k2)⟩
    obtain ⟨b1, n, b2, b3⟩ := a.2.2.2.1.2 k k1 k2
    refine ⟨by omega, mo_dsc_cg (N := s.1 24) (fun c hc => by rw [mo_psh_28, if_neg (by omega)]) (fun c h1 h2 => (i5 c h1 h2).2) n _ b1.2 b2 b3⟩
  · intro c q1 q2
    rw [e24] at q2
    unfold iv_t
    rw [mo_psh_26]
    by_cases e : c = s.1 24
    · rw [if_pos e]
      have := hl.1
      exact ⟨by show -1 ≤ l; omega, fun _ => (ll _).mpr hl, fun m => by omega⟩
    · rw [if_neg e]
      have a := i9 c q1 (by omega)
      exact ⟨a.1, fun m => (ll _).mpr (a.2.1 m), a.2.2⟩
  · intro k hk j j1 j2
    rw [F 3 (by decide)] at j2
    rw [F 4 (by decide)]
    refine i10 k ?_ j j1 j2
    unfold cr_lv at hk ⊢
    rw [F 5 (by decide), F 8 (by decide)] at hk
    exact hk
  · rw [e12, F 13 (by decide), F 16 (by decide), F 17 (by decide), F 23 (by decide)]; exact i11
  · rw [F 13 (by decide)]; exact i12
/-- what is to be defined is not known, and nothing stands twice -/
def cr_un (s : mo_S) (A : mo_WL) : Prop := (∀ w, w ∈ A → cr_ll s w.1 ∧ ∀ c, ¬ mo_kn s.2 (s.1 24) w.1 (s.2.1 2 w.2) c) ∧ A.Pairwise (fun w w' => ¬ (w.1 = w'.1 ∧ s.2.1 2 w.2 = s.2.1 2 w'.2))
theorem Iv0.dfn : ∀ (A : mo_WL) (s : mo_S) (ty : Int), Iv0 s → cr_un s A → 0 ≤ ty ∧ ty < s.1 24 → Iv0 (mo_dfn A s ty).1 ∧ ((mo_dfn A s ty).2 = -2 ∨ (0 ≤ (mo_dfn A s ty).2 ∧ (mo_dfn A s ty).2 < (mo_dfn A s ty).1.1 24)) ∧ (∀ k, k ≤ 24 → (mo_dfn A s ty).1.2.1 k = s.2.1 k) ∧ (mo_dfn A s ty).1.1 12 = s.1 12 := by
  intro A
  induction A with
  | nil => exact fun s ty h _ ht => ⟨h, Or.inr ht, fun _ _ => rfl, rfl⟩
  | cons w A ih =>
    intro s ty h hu ht
    by_cases e : s.1 24 = 120
    · have e1 : mo_dfn (w :: A) s ty = (s, -2) := if_pos e
      rw [e1]
      exact ⟨h, Or.inl rfl, fun _ _ => rfl, rfl⟩
    · have e1 : mo_dfn (w :: A) s ty = mo_dfn A (mo_psh s w ty) (s.1 24) := if_neg e
      rw [e1]
      have i2 := h.2.1
      have hw := hu.1 w List.mem_cons_self
      have F := fun k (hk : k ≤ 24) => mo_psh_o s w ty hk
      have e24 : (mo_psh s w ty).1 24 = s.1 24 + 1 := rfl
      have P := List.pairwise_cons.mp hu.2
      have hI := h.psh (f := w.2) hw.1 (by omega) ht hw.2
      have k := ih (mo_psh s w ty) (s.1 24) hI ⟨fun v hv => ?_, ?_⟩ ⟨by omega, by rw [e24]; omega⟩
      · exact ⟨k.1, k.2.1, fun q hq => (k.2.2.1 q hq).trans (F q hq), k.2.2.2⟩
      · have hv1 := hu.1 v (List.mem_cons_of_mem _ hv)
        refine ⟨⟨hv1.1.1, by rw [F 5 (by decide)]; exact hv1.1.2⟩, fun c hc => ?_⟩
        unfold mo_kn at hc
        rw [e24, F 2 (by decide), mo_psh_25, mo_psh_26] at hc
        by_cases ec : c = s.1 24
        · rw [if_pos ec, if_pos ec] at hc
          exact P.1 v hv ⟨hc.2.2.1, hc.2.2.2⟩
        · rw [if_neg ec, if_neg ec] at hc
          exact hv1.2 c ⟨hc.1, by omega, hc.2.2.1, hc.2.2.2⟩
      · rw [F 2 (by decide)]
        exact P.2
theorem mo_ph_un {n : Nat} (hI : Iv0 s) : ∀ (k : Nat) (W : mo_WL) (l m : Int) (r : Int × mo_WL), cr_ch s.2 n l → mo_ph s.2 (s.1 24) n k W l m r → cr_un s r.2 ∧ ∀ w, w ∈ r.2 → ¬ mo_iw s.2 W w.1 (s.2.1 2 w.2) := by
  have nil : ∀ (W : mo_WL) (x : Int), cr_un s (x, ([] : mo_WL)).2 ∧ ∀ w, w ∈ (x, ([] : mo_WL)).2 → ¬ mo_iw s.2 W w.1 (s.2.1 2 w.2) := fun W x => ⟨⟨fun w hw => absurd hw List.not_mem_nil, List.Pairwise.nil⟩, fun w hw => absurd hw List.not_mem_nil⟩
  intro k
  induction k with
  | zero =>
    intro W l m r hc hp
    rcases hp with ⟨_, e⟩ | ⟨_, _, e⟩ | ⟨l', f, _, _, ⟨c, _, e⟩ | ⟨_, ⟨_, e⟩ | ⟨_, e⟩⟩⟩
    · rw [e]; exact nil W _
    · rw [e]; exact nil W _
    · rw [e]; exact nil W _
    · rw [e]; exact nil W _
    · rw [e]; exact nil W _
  | succ k ih =>
    intro W l m r hc hp
    rcases hp with ⟨_, e⟩ | ⟨_, _, e⟩ | ⟨l', f, m8, sr, ⟨c, _, e⟩ | ⟨kn, ⟨_, e⟩ | ⟨iw, r', g, e⟩⟩⟩
    · rw [e]; exact nil W _
    · rw [e]; exact nil W _
    · rw [e]; exact nil W _
    · rw [e]; exact nil W _
    · have sc := cr_sr_c n l hc sr
      have ll := cr_ch_ll hI.2.2.2.2.2.1.1 sc.1
      have chn := cr_ch_chn hI.2.2.1 n l hc
      have sm := mo_sr_c n l chn sr
      have fn := (mo_fl_n sm.2.1 sm.2.2).2
      have I := ih (W ++ [(l', f)]) l' (s.2.1 2 (f + 1)) r' sc.1 g
      rw [e]
      have inW : ∀ w, w ∈ r'.2 → ¬ (l' = w.1 ∧ s.2.1 2 f = s.2.1 2 w.2) := by
        intro w hw q
        refine I.2 w hw ⟨W.length, (l', f), ?_, q.1, q.2⟩
        rw [List.getElem?_append_right (Nat.le_refl _), Nat.sub_self]
        rfl
      refine ⟨⟨fun w hw => ?_, List.pairwise_cons.mpr ⟨fun w hw => inW w hw, I.1.2⟩⟩, fun w hw => ?_⟩
      · rcases List.mem_cons.mp hw with q | q
        · rw [q]
          exact ⟨ll, fun c hc => kn c (by rw [← fn]; exact hc)⟩
        · exact I.1.1 w q
      · rcases List.mem_cons.mp hw with q | q
        · rw [q]
          show ¬ mo_iw s.2 W l' (s.2.1 2 f)
          rw [fn]
          exact iw
        · intro ⟨i, v, v1, v2, v3⟩
          refine I.2 w q ⟨i, v, ?_, v2, v3⟩
          have lt : i < W.length := by
            rcases Nat.lt_or_ge i W.length with k | k
            · exact k
            · rw [List.getElem?_eq_none k] at v1; cases v1
          rw [List.getElem?_append_left lt]
          exact v1
theorem Iv.rs {n : Nat} {l m : Int} {r : Int × mo_WL} (h : Iv s) (hc : cr_ch s.2 n l) (hm : 0 ≤ m) (hp : mo_ph s.2 (s.1 24) n 8 [] l m r) : Iv (mo_rs s r).1 ∧ (-2 ≤ (mo_rs s r).2 ∧ (mo_rs s r).2 < (mo_rs s r).1.1 24) ∧ (∀ k, k ≤ 24 → (mo_rs s r).1.2.1 k = s.2.1 k) ∧ (mo_rs s r).1.1 12 = s.1 12 := by
  have i2 := h.1.2.1
  have b := mo_ph_b (t := s.2) (n := n) i2 8 [] l m r (cr_ch_chn h.1.2.2.1 n l hc) hm hp
  by_cases e : r.1 < 0
  · rw [mo_rs_n e]
    exact ⟨h, by show -2 ≤ r.1 ∧ r.1 < s.1 24; omega, fun _ _ => rfl, rfl⟩
  · have u := (mo_ph_un h.1 8 [] l m r hc hp).1
    rw [mo_rs_p (by omega)]
    have k := Iv0.dfn r.2.reverse s r.1 h.1 ⟨fun w hw => u.1 w (List.mem_reverse.mp hw), ?_⟩ ⟨by omega, b.2.1⟩
    · refine ⟨⟨k.1, h.2.cg k.2.2.2 (k.2.2.1 5 (by decide)) (k.2.2.1 7 (by decide)) (k.2.2.1 13 (by decide)) (k.2.2.1 21 (by decide))⟩, ?_, k.2.2.1, k.2.2.2⟩
      have q := k.1.2.1
      rcases k.2.1 with j | j <;> omega
    · refine List.pairwise_reverse.mpr (u.2.imp (fun hab e => hab ⟨e.1.symm, e.2.symm⟩))
end CR23
/-! the class's calls over the state: look, info, isA -/
section CR24
variable {G : aw_G} {J : aw_J} {d kc ks : Nat} {Q : aw_O → aw_J → Prop} {x : Nat} {y : st_Y} {z : cr_Z} {s s' : mo_S}
theorem cx_look {l w : Int} (h : CR G x y z J s) (hI : Iv0 s) (hl : iB l) (hw : iB w) (hbad : ¬ (((0 ≤ l ∧ l ≤ 40) ∧ s.2.1 5 l ≠ 0) ∧ 0 ≤ w ∧ w ≤ 3) → Q (.inl (some (.int (iI (-1))))) J) (hg : ((0 ≤ l ∧ l ≤ 40) ∧ s.2.1 5 l ≠ 0) ∧ 0 ≤ w ∧ w ≤ 3 → ∀ r, (w = 0 → r = s.2.1 6 l) → (w = 1 → r = s.2.1 7 l) → (w = 2 → r = mo_hold s l) → (w = 3 → r = mo_dc (s.2.1 26) l (s.1 24 - 8).toNat) → Q (.inl (some (.int (iI r)))) J) : aw_W G mT_look (d + 1) Q 0 [some (.ref x), some (.int (iI l)), some (.int (iI w)), none] [] J kc ks := by
  obtain ⟨⟨cL, l1, l2⟩, l3⟩ := h.1.2.2.2.1
  by_cases g : (0 ≤ l ∧ l ≤ 40) ∧ ¬ s.2.1 5 l = 0
  · have L := CR.ld h.1 g
    have hh := h.2 l g.1.1 g.1.2 g.2
    have cl := (l2 l g.1.1 g.1.2).2 g.2
    have r7 := hI.2.2.2.2.2.1.2.2.1
    have up : l = 0 ∨ cr_ll s (s.2.1 7 l) := by
      by_cases l0 : l = 0
      · exact Or.inl l0
      · exact Or.inr (hI.up ⟨by omega, g.1.2⟩ g.2)
    have fin : ∀ v, (w = 0 → v = s.2.1 6 l) → (w = 1 → st_pa y s.2 l = none → v = -1) → (w = 1 → st_pa y s.2 l = some (yLo y (s.2.1 7 l)) → v = s.2.1 7 l) → (w = 2 → v = yHo y l) → (w = 3 → v = yDc y l) → (¬ (0 ≤ w ∧ w ≤ 3) → v = -1) → Q (.inl (some (.int (iI v)))) J := by
      intro v v0 v1 v2 v3 v4 v5
      by_cases w3 : 0 ≤ w ∧ w ≤ 3
      · refine hg ⟨g, w3⟩ v v0 (fun e => ?_) (fun e => by rw [v3 e]; exact hh.1) (fun e => by rw [v4 e]; exact hh.2)
        by_cases l0 : l = 0
        · rw [v1 e (if_pos l0), l0, r7]
        · exact v2 e (if_neg l0)
      · rw [v5 w3]
        exact hbad (fun m => w3 m.2)
    rcases up with l0 | up
    · exact sp_look (b := 0) (pn := 0) (tb := []) h.1.1 l1 hl hw (fun m => hbad (fun m2 => by
        rcases m with m | m
        · exact m g.1
        · rw [cl] at m; cases m)) (fun _ _ => ⟨cl, L.1, Or.inl (if_pos l0)⟩) (fun _ _ v v0 v1 v2 v3 v4 v5 => fin v v0 v1 (fun _ m => by rw [show st_pa y s.2 l = none from if_pos l0] at m; cases m) v3 v4 v5)
    · have Lp := CR.ld h.1 up
      by_cases l0 : l = 0
      · exact sp_look (b := 0) (pn := 0) (tb := []) h.1.1 l1 hl hw (fun m => hbad (fun m2 => by
          rcases m with m | m
          · exact m g.1
          · rw [cl] at m; cases m)) (fun _ _ => ⟨cl, L.1, Or.inl (if_pos l0)⟩) (fun _ _ v v0 v1 v2 v3 v4 v5 => fin v v0 v1 (fun _ m => by rw [show st_pa y s.2 l = none from if_pos l0] at m; cases m) v3 v4 v5)
      · exact sp_look (b := yLo y (s.2.1 7 l)) (pn := s.2.1 7 l) h.1.1 l1 hl hw (fun m => hbad (fun m2 => by
          rcases m with m | m
          · exact m g.1
          · rw [cl] at m; cases m)) (fun _ _ => ⟨cl, L.1, Or.inr ⟨if_neg l0, Lp.1⟩⟩) (fun _ _ v v0 v1 v2 v3 v4 v5 => fin v v0 v1 v2 v3 v4 v5)
  · refine sp_look (a := 0) (ca := 0) (n := 0) (kd := 0) (h := 0) (dc := 0) (g := 0) (pn := 0) (rp := none) (rf := none) (b := 0) (tb := []) h.1.1 l1 hl hw (fun _ => hbad (fun m => g m.1)) (fun m1 m2 => ?_) (fun m1 m2 => ?_)
    · exact absurd ((l2 l m1.1 m1.2).1 (Classical.byContradiction (fun q => g ⟨m1, q⟩))) m2
    · exact absurd ((l2 l m1.1 m1.2).1 (Classical.byContradiction (fun q => g ⟨m1, q⟩))) m2
theorem cx_info {i w : Int} (hkc : 2 ≤ kc) (hks : 12 ≤ ks) (h : CR G x y z J s) (hI : Iv0 s) (hi : iB i) (hw : iB w) (hbad : ¬ ((0 ≤ i ∧ i < s.1 24) ∧ 0 ≤ w ∧ w ≤ 3) → Q (.inr "java/util/NoSuchElementException") J) (hq : (0 ≤ i ∧ i < s.1 24) ∧ 0 ≤ w ∧ w ≤ 3 → ∀ v, (w = 0 → v = s.2.1 25 i) → (w = 1 → v = s.2.1 26 i) → (w = 2 → v = s.2.1 27 i) → (w = 3 → v = s.2.1 28 i) → Q (.inl (some (.int (iI v)))) J) : aw_W G mT_info (d + 1 + 1) Q 0 [some (.ref x), some (.int (iI i)), some (.int (iI w)), none] [] J kc ks := by
  obtain ⟨cT, hTY⟩ := h.1.2.2.2.2.2.2.1.1
  by_cases g : 0 ≤ i ∧ i < s.1 24
  · have D := h.1.2.2.2.2.2.2.1.2 i g.1 g.2
    have T := hI.2.2.2.2.2.2.2.2.1 i g.1 g.2
    by_cases e0 : 0 ≤ s.2.1 26 i
    · have L := (CR.ld h.1 (T.2.1 e0)).1
      rw [← D.1 e0] at L
      exact sp_info (ln := s.2.1 26 i) (dg := 0) (dl := z 9 i) hkc hks h.1.1 hTY hi hw (fun _ => hI.2.2.2.2.1 i g.1 g.2) (fun _ => ⟨rfl, Or.inl rfl, _, _, _, _, _, _, L⟩) hbad (fun q v v0 v1 v2 v3 v4 v5 => hq ⟨q, v5⟩ v v0 (fun m => v2 m rfl) v3 v4)
    · obtain ⟨l', k', rp, ca, rf, h', dc, e'⟩ := D.2 (by omega)
      have t1 := T.1
      exact sp_info (ln := l') (dg := 1) (dl := z 9 i) hkc hks h.1.1 hTY hi hw (fun _ => hI.2.2.2.2.1 i g.1 g.2) (fun _ => ⟨rfl, Or.inr rfl, _, _, _, _, _, _, e'⟩) hbad (fun q v v0 v1 v2 v3 v4 v5 => hq ⟨q, v5⟩ v v0 (fun m => by rw [v1 m rfl]; omega) v3 v4)
  · exact sp_info (ln := 0) (dg := 0) (dl := 0) hkc hks h.1.1 hTY hi hw (fun q => absurd q g) (fun q => absurd q g) hbad (fun q => absurd q g)
theorem cx_isA {i j : Int} (hkc : 2 ≤ kc) (hks : 12 ≤ ks) (h : CR G x y z J s) (hI : Iv0 s) (hi : iB i) (hj : iB j) (hbad : ¬ ((0 ≤ i ∧ i < s.1 24) ∧ 0 ≤ j ∧ j < s.1 24) → Q (.inr "java/util/NoSuchElementException") J) (h1 : (0 ≤ i ∧ i < s.1 24) ∧ 0 ≤ j ∧ j < s.1 24 → mo_dsc (s.2.1 28) i j → Q (.inl (some (.int (iI 1)))) J) (h0 : (0 ≤ i ∧ i < s.1 24) ∧ 0 ≤ j ∧ j < s.1 24 → ¬ mo_dsc (s.2.1 28) i j → Q (.inl (some (.int (iI 0)))) J) : aw_W G mT_isA (d + 1 + 1) Q 0 [some (.ref x), some (.int (iI i)), some (.int (iI j))] [] J kc ks := by
  obtain ⟨cT, hTY⟩ := h.1.2.2.2.2.2.2.1.1
  exact sp_isA hkc hks h.1.1 hTY hi hj hI.2.2.2.2.1 hbad h1 h0
end CR24
/-! the first state -/
section CR25
variable {G : aw_G} {J : aw_J} {d kc ks : Nat} {Q : aw_O → aw_J → Prop} {x : Nat} {y : st_Y} {z : cr_Z} {s s' : mo_S}
theorem mo_n0_f (k : Nat) (i : Int) : (mo_n0 8).2.1 k i = if k = 25 ∧ 0 ≤ i ∧ i < 8 then i else if k = 28 ∧ 0 ≤ i ∧ i < 8 then -1 else if k = 13 ∧ i = 0 then 1 else if k = 7 ∧ i = 0 then -1 else if k = 5 ∧ i = 0 then 1 else 0 := rfl
theorem mo_n0_z {k : Nat} (h25 : k ≠ 25) (h28 : k ≠ 28) (h13 : k ≠ 13) (h7 : k ≠ 7) (h5 : k ≠ 5) (i : Int) : (mo_n0 8).2.1 k i = 0 := by
  rw [mo_n0_f, if_neg (fun e => h25 e.1), if_neg (fun e => h28 e.1), if_neg (fun e => h13 e.1), if_neg (fun e => h7 e.1), if_neg (fun e => h5 e.1)]
theorem mo_n0_5 (i : Int) : (mo_n0 8).2.1 5 i = if i = 0 then 1 else 0 := by
  rw [mo_n0_f]
  simp only [Nat.reduceEqDiff, false_and, true_and, if_false]
theorem mo_n0_13 (i : Int) : (mo_n0 8).2.1 13 i = if i = 0 then 1 else 0 := by
  rw [mo_n0_f]
  simp only [Nat.reduceEqDiff, false_and, true_and, if_false]
theorem mo_n0_7 (i : Int) : (mo_n0 8).2.1 7 i = if i = 0 then -1 else 0 := by
  rw [mo_n0_f]
  simp only [Nat.reduceEqDiff, false_and, true_and, if_false]
theorem mo_n0_25 {i : Int} (h0 : 0 ≤ i) (h8 : i < 8) : (mo_n0 8).2.1 25 i = i := if_pos ⟨rfl, h0, h8⟩
theorem mo_n0_28 {i : Int} (h0 : 0 ≤ i) (h8 : i < 8) : (mo_n0 8).2.1 28 i = -1 := by
  rw [mo_n0_f, if_neg (fun e => absurd e.1 (by decide)), if_pos ⟨rfl, h0, h8⟩]
theorem mo_n0_h : mo_hold (mo_n0 8) 0 = 2 := by
  have a : ∀ n : Nat, mo_hk (mo_n0 8) 0 n = 0 := by
    intro n
    induction n with
    | zero => rfl
    | succ n ih =>
      rw [mo_hk, ih]
      have a1 : ¬ ((mo_n0 8).2.1 5 ((n : Int) + 1) ≠ 0 ∧ (mo_n0 8).2.1 7 ((n : Int) + 1) = 0) := fun e => e.1 (by rw [mo_n0_5, if_neg (by omega)])
      rw [if_neg a1]; rfl
  unfold mo_hold
  rw [a 40]
  rfl
theorem Iv_n0 : Iv (mo_n0 8) := by
  have e12 : (mo_n0 8).1 12 = 1 := rfl
  have e24 : (mo_n0 8).1 24 = 8 := rfl
  have nl : ∀ j, 1 ≤ j → (mo_n0 8).2.1 5 j = 0 := fun j hj => by rw [mo_n0_5, if_neg (by omega)]
  have l0 : ∀ j, cr_ll (mo_n0 8) j → j = 0 := fun j hj => Classical.byContradiction (fun e => hj.2 (nl j (by have := hj.1; omega)))
  have r0 : cr_ll (mo_n0 8) 0 := ⟨by decide, by rw [mo_n0_5, if_pos rfl]; decide⟩
  have Z := fun {k : Nat} (h25 : k ≠ 25) (h28 : k ≠ 28) (h13 : k ≠ 13) (h7 : k ≠ 7) (h5 : k ≠ 5) (i : Int) => mo_n0_z h25 h28 h13 h7 h5 i
  refine ⟨⟨by decide, by decide, ⟨fun a _ _ => ⟨⟨?_, ?_, ?_, ?_, ?_⟩, ?_⟩, fun l l1 l2 l3 => absurd (nl l l1) l3⟩, ?_, ?_, ⟨r0.2, ?_, ?_, ?_⟩, ?_, ?_, ?_, ?_, ?_, ?_⟩, fun j j1 j2 j3 => absurd (nl j j1) j3, fun k k1 k2 => Z (by decide) (by decide) (by decide) (by decide) (by decide) _⟩
  · rw [Z (k := 1) (by decide) (by decide) (by decide) (by decide) (by decide)]; decide
  · rw [Z (k := 3) (by decide) (by decide) (by decide) (by decide) (by decide)]; decide
  · intro j k q1 q2
    rw [Z (k := 1) (by decide) (by decide) (by decide) (by decide) (by decide)] at q2
    omega
  · intro j k q1 q2
    rw [Z (k := 3) (by decide) (by decide) (by decide) (by decide) (by decide)] at q2
    omega
  · intro k q1 q2
    rw [Z (k := 3) (by decide) (by decide) (by decide) (by decide) (by decide)] at q2
    omega
  · intro k q1 q2
    rw [Z (k := 1) (by decide) (by decide) (by decide) (by decide) (by decide)] at q2
    omega
  · intro a b c c' q1 q2
    have := q2.1
    have := q2.2.1
    rw [e24] at this
    omega
  · intro c q1 q2
    rw [e24] at q2
    rw [mo_n0_28 q1 q2]
    omega
  · rw [Z (k := 6) (by decide) (by decide) (by decide) (by decide) (by decide)]
  · rw [mo_n0_7, if_pos rfl]
  · rw [Z (k := 8) (by decide) (by decide) (by decide) (by decide) (by decide)]
  · exact fun l hl => ⟨0, l0 l hl⟩
  · intro i q1 q2
    rw [e12] at q2
    have i0 : i = 0 := by omega
    subst i0
    unfold iv_s
    rw [mo_n0_13, if_pos rfl, Z (k := 23) (by decide) (by decide) (by decide) (by decide) (by decide)]
    refine ⟨by decide, fun m => absurd m (by decide), fun w _ => ?_, ⟨by decide, fun k k1 k2 => absurd k2 (by omega)⟩, fun _ k k1 k2 => ?_⟩
    · rw [Z (k := 16) (by decide) (by decide) (by decide) (by decide) (by decide)]
      exact ⟨by decide, fun k k1 k2 => absurd k2 (by omega)⟩
    · rw [Z (k := 21) (by decide) (by decide) (by decide) (by decide) (by decide)]
      exact r0
  · intro c q1 q2
    unfold iv_t
    rw [Z (k := 26) (by decide) (by decide) (by decide) (by decide) (by decide)]
    exact ⟨by decide, fun _ => r0, fun _ => rfl⟩
  · intro k _ j j1 j2
    rw [Z (k := 3) (by decide) (by decide) (by decide) (by decide) (by decide)] at j2
    omega
  · intro i _ _
    rw [mo_n0_13, Z (k := 16) (by decide) (by decide) (by decide) (by decide) (by decide), Z (k := 16) (by decide) (by decide) (by decide) (by decide) (by decide), Z (k := 17) (by decide) (by decide) (by decide) (by decide) (by decide), Z (k := 23) (by decide) (by decide) (by decide) (by decide) (by decide)]
    have : i ≠ 0 := by have : (mo_n0 8).1 12 ≤ i := by assumption
                       rw [e12] at this; omega
    rw [if_neg this]
    exact ⟨rfl, rfl, rfl, rfl, rfl⟩
  · rw [mo_n0_13, if_pos rfl]
def ci_z (aA aS aL aT aO aN sc p1 q1 p2 q2 ab rt : Nat) (Ty : Int → Nat) : cr_Z := fun k j => if k = 0 then (if j = 0 then aA else if j = 1 then aS else if j = 2 then aL else if j = 3 then aT else if j = 4 then aO else aN) else if k = 1 then sc else if k = 2 then p1 else if k = 3 then q1 else if k = 4 then p2 else if k = 5 then q2 else if k = 6 then ab else if k = 8 then Ty j else rt
theorem ci_CR {H : aw_J} {aA aS aL aT aO aN sc p1 q1 p2 q2 ab rt ca : Nat} {A fA dA Ty : Int → Nat} {cA cS cL cT : Nat → Option Nat} (hT : st_T H x aA aS aL aT aO aN 1 8) (h1 : H aA = some (.inl (G.2.2.1 3, 10, .inr (.inr (.inr (.inr cA)))))) (h2 : ∀ j, 0 ≤ j → j < 10 → cA j.toNat = some (A j)) (h3 : ∀ j, 0 ≤ j → j < 10 → st_A G H (A j) (fA j) (dA j) (fun _ => none) (fun _ => none) 0 0) (h4 : ∀ j k, 0 ≤ j → j < 10 → 0 ≤ k → k < 10 → (A j = A k ∨ fA j = fA k ∨ dA j = dA k) → j = k) (h5 : H aL = some (.inl (G.2.2.1 5, 41, .inr (.inr (.inr (.inr cL)))))) (h6 : cL 0 = some rt ∧ ∀ j : Nat, j ≠ 0 → cL j = none) (h7 : st_L H rt 0 0 none ca none 2 0 0) (h8 : H ca = some (.inl (G.2.2.1 3, 0, .inr (.inr (.inr (.inr (fun _ => none))))))) (h9 : H aS = some (.inl (G.2.2.1 4, 12, .inr (.inr (.inr (.inr cS)))))) (h10 : cS 0 = some sc) (h11 : st_S H sc none p1 p2 none (G.2.2.2.1 1) none (some rt) (some rt) ab 0) (h12 : st_P G H p1 q1 0 (fun _ => 0)) (h13 : st_P G H p2 q2 0 (fun _ => 0)) (h14 : p1 ≠ p2 ∧ q1 ≠ q2) (h15 : H ab = some (.inl (G.2.2.1 6, 8, .inr (.inr (.inr (.inr (fun _ => none))))))) (h16 : H aT = some (.inl (G.2.2.1 6, 120, .inr (.inr (.inr (.inr cT)))))) (h17 : ∀ c, 0 ≤ c → c < 8 → cT c.toNat = some (Ty c) ∧ H (Ty c) = some (.inr (7, [.int (iI c), .int (iI c), .int (iI 0), .ref rt, .null]))) (h18 : H aO = some (.inl (G.2.2.1 5, 8, .inr (.inr (.inr (.inr (fun _ => none))))))) (h19 : H aN = some (.inl (G.2.2.1 0, 8, .inl (fun _ => iI 0)))) : CR G x (fun _ => rt, fun _ => ca, fun _ => none, fun _ => 2, fun _ => 0, A, fA, dA, fun _ _ => none, fun _ _ => none) (ci_z aA aS aL aT aO aN sc p1 q1 p2 q2 ab rt Ty) H (mo_n0 8) := by
  have Z := fun {k : Nat} (h25 : k ≠ 25) (h28 : k ≠ 28) (h13 : k ≠ 13) (h7 : k ≠ 7) (h5 : k ≠ 5) (i : Int) => mo_n0_z h25 h28 h13 h7 h5 i
  have e12 : (mo_n0 8).1 12 = 1 := rfl
  have e24 : (mo_n0 8).1 24 = 8 := rfl
  have nl : ∀ j, j ≠ 0 → (mo_n0 8).2.1 5 j = 0 := fun j hj => by rw [mo_n0_5, if_neg hj]
  refine ⟨⟨hT, ⟨⟨cA, h1, fun a a1 a2 => h2 a a1 (by omega)⟩, fun a a1 a2 => ?_⟩, ?_, ⟨⟨cL, h5, fun l l1 l2 => ?_⟩, fun l l1 l2 l3 => ?_⟩, ⟨⟨cS, h9, fun i i1 i2 => ?_⟩, fun i i1 i2 => ?_⟩, ⟨fun i j i1 i2 j1 j2 _ => ?_, fun i j _ _ _ _ => h14⟩, ⟨⟨cT, ?_⟩, fun c c1 c2 => ?_⟩, ⟨⟨_, h18⟩, fun _ => 0, h19, fun _ => (by show iB 0; decide)⟩⟩, fun l l1 l2 l3 => ?_⟩
  · unfold cr_st
    rw [Z (k := 1) (by decide) (by decide) (by decide) (by decide) (by decide), Z (k := 3) (by decide) (by decide) (by decide) (by decide) (by decide)]
    exact ⟨h3 a a1 (by omega), fun j j1 j2 => absurd j2 (by omega), fun j j1 j2 => absurd j2 (by omega)⟩
  · intro k k' hk hk' he
    have hk : 0 ≤ k ∧ k ≤ 9 := by
      rcases hk with hk | ⟨l, i, k1, k2, _⟩
      · exact hk
      · exact absurd (nl l (by omega)) k2
    have hk' : 0 ≤ k' ∧ k' ≤ 9 := by
      rcases hk' with hk | ⟨l, i, k1, k2, _⟩
      · exact hk
      · exact absurd (nl l (by omega)) k2
    exact h4 k k' hk.1 (by omega) hk'.1 (by omega) he
  · by_cases e : l = 0
    · rw [mo_n0_5, if_pos e, e]
      exact ⟨fun m => absurd m (by decide), fun _ => h6.1⟩
    · rw [nl l e]
      exact ⟨fun _ => h6.2 _ (by omega), fun m => absurd rfl m⟩
  · have e : l = 0 := Classical.byContradiction (fun m => l3 (nl l m))
    subst e
    refine cr_LB.iff.mpr ⟨?_, ⟨fun _ => none, ?_, ?_⟩, ?_, ?_, fun _ => rfl⟩
    · rw [Z (k := 6) (by decide) (by decide) (by decide) (by decide) (by decide), show st_pa (fun _ => rt, fun _ => ca, fun _ => none, fun _ => 2, fun _ => 0, A, fA, dA, fun _ _ => none, fun _ _ => none) (mo_n0 8).2 0 = none from if_pos rfl]
      exact h7
    · rw [Z (k := 8) (by decide) (by decide) (by decide) (by decide) (by decide)]
      exact h8
    · rw [Z (k := 8) (by decide) (by decide) (by decide) (by decide) (by decide)]
      exact fun i i1 i2 => absurd i2 (by have : (0 : Int).toNat = 0 := rfl; omega)
    · rw [Z (k := 8) (by decide) (by decide) (by decide) (by decide) (by decide)]
      exact fun i i1 i2 => absurd i2 (by have : (0 : Int).toNat = 0 := rfl; omega)
    · rw [Z (k := 6) (by decide) (by decide) (by decide) (by decide) (by decide)]
      exact fun m => absurd m (by decide)
  · rw [e12] at i2
    have : i = 0 := by omega
    subst this
    exact h10
  · rw [e12] at i2
    have : i = 0 := by omega
    subst this
    unfold cr_S1 cr_k3
    rw [if_pos rfl, mo_n0_13, if_pos rfl, Z (k := 17) (by decide) (by decide) (by decide) (by decide) (by decide), if_pos rfl, Z (k := 23) (by decide) (by decide) (by decide) (by decide) (by decide), Z (k := 16) (by decide) (by decide) (by decide) (by decide) (by decide), Z (k := 16) (by decide) (by decide) (by decide) (by decide) (by decide)]
    exact ⟨⟨none, some rt, some rt, h11, fun _ => ⟨fun m => absurd m (by decide), rfl, rfl⟩⟩, ⟨_, h12, fun j j1 j2 => absurd j2 (by omega)⟩, ⟨_, h13, fun j j1 j2 => absurd j2 (by omega)⟩, fun m => absurd rfl m, _, h15, ⟨by decide, by decide⟩, fun j j1 j2 => absurd j2 (by omega)⟩
  · rw [e12] at i2 j2
    omega
  · rw [e24]
    refine ⟨h16, by decide, fun c c1 c2 => ?_⟩
    have t := h17 c c1 c2
    rw [mo_n0_25 c1 c2, mo_n0_28 c1 c2, Z (k := 27) (by decide) (by decide) (by decide) (by decide) (by decide)]
    exact ⟨by omega, t.1, t.2⟩
  · unfold cr_D
    rw [Z (k := 26) (by decide) (by decide) (by decide) (by decide) (by decide)]
    exact ⟨fun _ => rfl, fun m => absurd m (by decide)⟩
  · have e : l = 0 := Classical.byContradiction (fun m => l3 (nl l m))
    subst e
    exact ⟨mo_n0_h.symm, rfl⟩
end CR25
