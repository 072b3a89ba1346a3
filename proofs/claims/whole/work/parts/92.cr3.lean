/-! the class's calls over the state: child -/
section CR6
variable {G : aw_G} {J : aw_J} {d kc ks : Nat} {Q : aw_O → aw_J → Prop} {x : Nat} {y : st_Y} {z : cr_Z} {s s' : mo_S}
def cr_zs (z : cr_Z) (n : Int) (A : Nat → Nat) : cr_Z := fun k j => if 1 ≤ k ∧ k ≤ 6 then (if j = n then A k else z k j) else z k j
theorem cr_zs_n {n j : Int} {A : Nat → Nat} (h : j ≠ n) (k : Nat) : cr_zs z n A k j = z k j := by
  unfold cr_zs
  rw [if_neg h]
  split <;> rfl
theorem cr_zs_y {n : Int} {A : Nat → Nat} {k : Nat} (h : 1 ≤ k ∧ k ≤ 6) : cr_zs z n A k n = A k := by
  unfold cr_zs
  rw [if_pos h, if_pos rfl]
theorem cr_zs_o {n j : Int} {A : Nat → Nat} {k : Nat} (h : ¬ (1 ≤ k ∧ k ≤ 6)) : cr_zs z n A k j = z k j := by
  unfold cr_zs
  rw [if_neg h]
def cr_kKd : Nat → Nat → Bool := fun i n => (i == 0 && n == 8) || (i == 4 && n == 12)
theorem cr_kKd_C : ∀ i n, cr_kC i n = false → cr_kKd i n = false := by
  intro i n
  simp [cr_kC, cr_kKd]
  omega
theorem cr_S1.zs {t : mo_T} {i n : Int} {A : Nat → Nat} (hS : cr_S1 G J t y z i) (hne : i ≠ n) (hp : i = 0 ∨ t.1 14 i ≠ n) : cr_S1 G J t y (cr_zs z n A) i := by
  have e := fun k => cr_zs_n (z := z) (A := A) hne k
  have e8 : cr_zs z n A 8 = z 8 := funext (fun j => cr_zs_o (by decide))
  unfold cr_S1 at hS ⊢
  rw [e 1, e 2, e 3, e 4, e 5, e 6, e 7, e8]
  rcases hp with hp | hp
  · rw [if_pos hp] at hS ⊢
    exact hS
  · rw [cr_zs_n hp]
    exact hS
theorem C0.kid {cS : Nat → Option Nat} {J1 : aw_J} {p : Int} {A : Nat → Nat} (htg : aw_tg G) (h : C0 G x y z J s) (hc1 : J (z 0 1) = some (.inl (G.2.2.1 4, 12, .inr (.inr (.inr (.inr cS)))))) (hc2 : ∀ i, 0 ≤ i → i < s.1 12 → cS i.toNat = some (z 1 i)) (h12 : 1 ≤ s.1 12 ∧ s.1 12 < 12) (hp : 0 ≤ p ∧ p < s.1 12) (h14 : ∀ i, 1 ≤ i → i < s.1 12 → s.2.1 14 i < i) (hz : s.2.1 13 (s.1 12) = 0 ∧ s.2.1 16 (2 * s.1 12) = 0 ∧ s.2.1 16 (2 * s.1 12 + 1) = 0 ∧ s.2.1 17 (s.1 12) = 0 ∧ s.2.1 23 (s.1 12) = 0) (hfr : ∀ k, 1 ≤ k → k ≤ 6 → J (A k) = none) (hAA : A 2 ≠ A 4 ∧ A 3 ≠ A 5) (hS : st_S J1 (A 1) (some (z 1 p)) (A 2) (A 4) none (G.2.2.2.1 0) none none none (A 6) 0) (hP1 : st_P G J1 (A 2) (A 3) 0 (fun _ => 0)) (hP2 : st_P G J1 (A 4) (A 5) 0 (fun _ => 0)) (hA6 : J1 (A 6) = some (.inl (G.2.2.1 6, 8, .inr (.inr (.inr (.inr (fun _ => none))))))) (hrow : J1 (z 0 1) = some (.inl (G.2.2.1 4, 12, .inr (.inr (.inr (.inr (va_up cS (s.1 12).toNat (some (A 1))))))))) (hT : st_T J1 x (z 0 0) (z 0 1) (z 0 2) (z 0 3) (z 0 4) (z 0 5) (s.1 12 + 1) (s.1 24)) (hb : ∀ b v, J b = some v → b ≠ z 0 1 → b ≠ x → J1 b = some v) : C0 G x y (cr_zs z (s.1 12) A) J1 (mo_uz (mo_uf s 14 (s.1 12) p) 12 (s.1 12 + 1)) ∧ cr_ag G cr_kKd (z 0 5) J J1 := by
  obtain ⟨h1, h2, h3, h4, h6, h7, h8, h9⟩ := h
  have ha : ∀ w, cr_ag G cr_kKd w J J1 := by
    intro w b e q1 q2 q3
    refine hb b e q1 (fun z => ?_) (fun z => ?_)
    · rw [z, hc1] at q1
      cases q1
      exact absurd (q2 4 12 (cr_shq (by decide) (by decide))) (by decide)
    · rw [z, h1] at q1
      cases q1
      exact absurd (q2 0 8 ⟨rfl, rfl⟩) (by decide)
  have kI : cr_kI cr_kKd := ⟨rfl, rfl, rfl, fun _ => rfl⟩
  have E : ∀ (f : Nat) (p' : Int), f ≠ 14 ∨ p' ≠ s.1 12 → (mo_uz (mo_uf s 14 (s.1 12) p) 12 (s.1 12 + 1)).2.1 f p' = s.2.1 f p' := by
    intro f p' h
    rw [mo_uz_2, mo_uf_2, if_neg (by omega)]
  have E14 : (mo_uz (mo_uf s 14 (s.1 12) p) 12 (s.1 12 + 1)).2.1 14 (s.1 12) = p := by
    rw [mo_uz_2, mo_uf_2, if_pos ⟨rfl, rfl⟩]
  have E2 : (mo_uz (mo_uf s 14 (s.1 12) p) 12 (s.1 12 + 1)).2.2 = s.2.2 := rfl
  have e12 : (mo_uz (mo_uf s 14 (s.1 12) p) 12 (s.1 12 + 1)).1 12 = s.1 12 + 1 := rfl
  have e24 : (mo_uz (mo_uf s 14 (s.1 12) p) 12 (s.1 12 + 1)).1 24 = s.1 24 := rfl
  generalize (mo_uz (mo_uf s 14 (s.1 12) p) 12 (s.1 12 + 1)) = s' at E E14 E2 e12 e24
  have F : ∀ f, f ≠ 14 → s'.2.1 f = s.2.1 f := fun f hf => funext (fun p => E f p (Or.inl hf))
  have zo : ∀ j, cr_zs z (s.1 12) A 0 j = z 0 j := fun j => cr_zs_o (by decide)
  have b2 : cr_st G J1 s'.2 = cr_st G J1 s.2 := by
    funext y k
    simp only [cr_st, F 1 (by decide), F 2 (by decide), F 3 (by decide), F 4 (by decide)]
  have b1 : cr_lv s'.2 = cr_lv s.2 := by
    funext k
    simp only [cr_lv, F 5 (by decide), F 8 (by decide)]
  have b3 : cr_LB G J1 s'.2 = cr_LB G J1 s.2 := by
    funext y l
    simp only [cr_LB, b2, F 6 (by decide), F 8 (by decide), F 9 (by decide), E2]
  refine ⟨⟨?_, ?_, ?_, ?_, ⟨⟨va_up cS (s.1 12).toNat (some (A 1)), ?_, ?_⟩, ?_⟩, ⟨?_, ?_⟩, ?_, ?_⟩, ha _⟩
  · rw [zo, zo, zo, zo, zo, zo, e12, e24]; exact hT
  · rw [zo]
    have := h2.ag htg (ha 0) kI ⟨rfl, rfl, rfl⟩
    exact ⟨this.1, fun k q1 q2 => by rw [b2]; exact this.2 k q1 q2⟩
  · exact fun k k' q1 q2 => h3 k k' (by rw [← b1]; exact q1) (by rw [← b1]; exact q2)
  · rw [zo]
    obtain ⟨⟨c, d1, d2⟩, d3⟩ := h4.ag htg (ha 0) kI ⟨rfl, rfl, rfl⟩ rfl rfl
    refine ⟨⟨c, d1, fun l q1 q2 => by rw [F 5 (by decide)]; exact d2 l q1 q2⟩, fun l q1 q2 q3 => ?_⟩
    rw [cr_LB.iff, b3]
    simp only [st_pa, F 6 (by decide), F 7 (by decide)]
    exact cr_LB.iff.mp (d3 l q1 q2 (by rw [← F 5 (by decide)]; exact q3))
  · rw [zo]; exact hrow
  · intro i q1 q2
    rw [e12] at q2
    by_cases e : i = s.1 12
    · subst e
      rw [cr_zs_y (by decide)]
      exact va_up_self _ _ _
    · rw [cr_zs_n e]
      exact (va_up_ne _ _ (by omega)).trans (hc2 i q1 (by omega))
  · intro i q1 q2
    rw [e12] at q2
    by_cases e : i = s.1 12
    · subst e
      have zy := fun k (hk : 1 ≤ k ∧ k ≤ 6) => cr_zs_y (z := z) (n := s.1 12) (A := A) hk
      unfold cr_S1 cr_k3
      rw [if_neg (by omega), F 13 (by decide), F 16 (by decide), F 17 (by decide), F 23 (by decide), F 15 (by decide), hz.1, hz.2.1, hz.2.2.1, hz.2.2.2.1, hz.2.2.2.2, E14, zy 1 (by decide), zy 2 (by decide), zy 3 (by decide), zy 4 (by decide), zy 5 (by decide), zy 6 (by decide), cr_zs_n (by omega)]
      exact ⟨⟨none, none, none, hS, fun q => absurd q (by decide)⟩, ⟨_, hP1, fun j j1 j2 => absurd j2 (by omega)⟩, ⟨_, hP2, fun j j1 j2 => absurd j2 (by omega)⟩, fun q => absurd rfl q, _, hA6, ⟨by decide, by decide⟩, fun j j1 j2 => absurd j2 (by omega)⟩
    · have hi : i < s.1 12 := by omega
      have S1 := (h6.2 i q1 hi)
      obtain ⟨⟨r1, r2, r3, s1, s2⟩, ⟨P1, p1, p2⟩, ⟨P2, p3, p4⟩, ff, ap, hap⟩ := h6.2 i q1 hi
      have nr := fun {b : Nat} {v : va_E} (q : J b = some v) (m : v ≠ .inl (G.2.2.1 4, 12, .inr (.inr (.inr (.inr cS))))) => aw_ne q hc1 m
      have nx := fun {b : Nat} {v : va_E} (q : J b = some v) (m : v ≠ .inr (8, [.ref (z 0 0), .ref (z 0 1), .int (iI (s.1 12)), .ref (z 0 2), .ref (z 0 3), .int (iI (s.1 24)), .ref (z 0 4), .ref (z 0 5)])) => aw_ne q h1 m
      have S2 := S1.ag htg (ha 0) kI ⟨rfl, rfl, rfl, rfl⟩
      have S3 : cr_S1 G J1 s'.2 y z i := S2.so ⟨⟨E 13 _ (by omega), E 14 _ (by omega), E 16 _ (by omega), E 16 _ (by omega), E 17 _ (by omega), E 18 _ (by omega), by rw [E2], by rw [E2], E 23 _ (by omega)⟩, fun k _ _ => E 15 _ (by omega), fun k _ _ => E 22 _ (by omega), fun k _ _ => E 21 _ (by omega)⟩
      refine S3.zs e ?_
      by_cases i0 : i = 0
      · exact Or.inl i0
      · have := h14 i (by omega) hi
        exact Or.inr (by rw [E 14 i (by omega)]; omega)
  · intro i j i1 i2 j1 j2 hz'
    rw [e12] at i2 j2
    have fr : ∀ k j, 1 ≤ k → k ≤ 6 → 0 ≤ j → j < s.1 12 → J (z k j) ≠ none := by
      intro k j k1 k2 j1 j2
      obtain ⟨⟨r1, r2, r3, s1, s2⟩, ⟨P1, p1, p2⟩, ⟨P2, p3, p4⟩, ff, ap, hap⟩ := h6.2 j j1 j2
      have : k = 1 ∨ k = 2 ∨ k = 3 ∨ k = 4 ∨ k = 5 ∨ k = 6 := by omega
      rcases this with rfl | rfl | rfl | rfl | rfl | rfl
      · rw [s1]; exact fun m => by cases m
      · rw [p1.1]; exact fun m => by cases m
      · rw [p1.2.1]; exact fun m => by cases m
      · rw [p3.1]; exact fun m => by cases m
      · rw [p3.2.1]; exact fun m => by cases m
      · rw [hap.1]; exact fun m => by cases m
    by_cases ei : i = s.1 12
    · by_cases ej : j = s.1 12
      · omega
      · exfalso
        have zn := fun k => cr_zs_n (z := z) (A := A) ej k
        rw [ei, cr_zs_y (by decide), cr_zs_y (by decide), cr_zs_y (by decide), cr_zs_y (by decide), cr_zs_y (by decide), cr_zs_y (by decide), zn, zn, zn, zn, zn, zn] at hz'
        rcases hz' with m | m | m | m | m | m
        all_goals exact fr _ j (by decide) (by decide) j1 (by omega) (m ▸ hfr _ (by decide) (by decide))
    · by_cases ej : j = s.1 12
      · exfalso
        have zn := fun k => cr_zs_n (z := z) (A := A) ei k
        rw [ej, cr_zs_y (by decide), cr_zs_y (by decide), cr_zs_y (by decide), cr_zs_y (by decide), cr_zs_y (by decide), cr_zs_y (by decide), zn, zn, zn, zn, zn, zn] at hz'
        rcases hz' with m | m | m | m | m | m
        all_goals exact fr _ i (by decide) (by decide) i1 (by omega) (m.symm ▸ hfr _ (by decide) (by decide))
      · rw [cr_zs_n ei, cr_zs_n ei, cr_zs_n ei, cr_zs_n ei, cr_zs_n ei, cr_zs_n ei, cr_zs_n ej, cr_zs_n ej, cr_zs_n ej, cr_zs_n ej, cr_zs_n ej, cr_zs_n ej] at hz'
        exact h7.1 i j i1 (by omega) j1 (by omega) hz'
  · intro i j i1 i2 j1 j2
    rw [e12] at i2 j2
    have fr : ∀ k j, 2 ≤ k → k ≤ 5 → 0 ≤ j → j < s.1 12 → J (z k j) ≠ none := by
      intro k j k1 k2 j1 j2
      obtain ⟨⟨r1, r2, r3, s1, s2⟩, ⟨P1, p1, p2⟩, ⟨P2, p3, p4⟩, ff, ap, hap⟩ := h6.2 j j1 j2
      have : k = 2 ∨ k = 3 ∨ k = 4 ∨ k = 5 := by omega
      rcases this with rfl | rfl | rfl | rfl
      · rw [p1.1]; exact fun m => by cases m
      · rw [p1.2.1]; exact fun m => by cases m
      · rw [p3.1]; exact fun m => by cases m
      · rw [p3.2.1]; exact fun m => by cases m
    by_cases ei : i = s.1 12
    · rw [ei, cr_zs_y (by decide), cr_zs_y (by decide)]
      by_cases ej : j = s.1 12
      · rw [ej, cr_zs_y (by decide), cr_zs_y (by decide)]
        exact hAA
      · rw [cr_zs_n ej, cr_zs_n ej]
        exact ⟨fun m => fr 4 j (by decide) (by decide) j1 (by omega) (m ▸ hfr 2 (by decide) (by decide)), fun m => fr 5 j (by decide) (by decide) j1 (by omega) (m ▸ hfr 3 (by decide) (by decide))⟩
    · rw [cr_zs_n ei, cr_zs_n ei]
      by_cases ej : j = s.1 12
      · rw [ej, cr_zs_y (by decide), cr_zs_y (by decide)]
        exact ⟨fun m => fr 2 i (by decide) (by decide) i1 (by omega) (m.symm ▸ hfr 4 (by decide) (by decide)), fun m => fr 3 i (by decide) (by decide) i1 (by omega) (m.symm ▸ hfr 5 (by decide) (by decide))⟩
      · rw [cr_zs_n ej, cr_zs_n ej]
        exact h7.2 i j i1 (by omega) j1 (by omega)
  · have := (h8.ag htg (ha 0) rfl rfl rfl).cg e24 (fun k q1 q2 => F k (by omega))
    unfold cr_T cr_D at this ⊢
    rw [zo, show cr_zs z (s.1 12) A 8 = z 8 from funext (fun j => cr_zs_o (by decide)), show cr_zs z (s.1 12) A 9 = z 9 from funext (fun j => cr_zs_o (by decide))]
    exact this
  · obtain ⟨⟨oL, o1⟩, oN, o2, o3⟩ := h9
    unfold cr_O
    rw [zo, zo]
    exact ⟨⟨oL, (ha 0).q htg o1 (by decide) (by decide) rfl⟩, oN, hb _ _ o2 (aw_ne o2 hc1 (fun m => by injection m with m; injection m with _ m; injection m with m _; exact absurd m (by decide))) (aw_ne o2 h1 (fun m => by cases m)), o3⟩
theorem mo_hk_cg {s s' : mo_S} (h5 : s'.2.1 5 = s.2.1 5) (h7 : s'.2.1 7 = s.2.1 7) (l : Int) (n : Nat) : mo_hk s' l n = mo_hk s l n := by
  induction n with
  | zero => rfl
  | succ n ih => rw [mo_hk, mo_hk, ih, h5, h7]
theorem mo_hs_cg {s s' : mo_S} (h13 : s'.2.1 13 = s.2.1 13) (h21 : s'.2.1 21 = s.2.1 21) (l : Int) (n : Nat) : mo_hs s' l n = mo_hs s l n := by
  have e2 : ∀ t n, mo_h3 s' l t n = mo_h3 s l t n := by
    intro t n
    induction n with
    | zero => rfl
    | succ n ih => rw [mo_h3, mo_h3, ih, h21]
  induction n with
  | zero => rfl
  | succ n ih => rw [mo_hs, mo_hs, ih, h13, e2]
theorem mo_hold_kid {p : Int} (h12 : 1 ≤ s.1 12) (hz : s.2.1 13 (s.1 12) = 0) (l : Int) : mo_hold (mo_uz (mo_uf s 14 (s.1 12) p) 12 (s.1 12 + 1)) l = mo_hold s l := by
  have E : ∀ (f : Nat), f ≠ 14 → (mo_uz (mo_uf s 14 (s.1 12) p) 12 (s.1 12 + 1)).2.1 f = s.2.1 f := by
    intro f h
    funext p'
    rw [mo_uz_2, mo_uf_2, if_neg (fun e => h e.1)]
  unfold mo_hold
  rw [mo_hk_cg (E 5 (by decide)) (E 7 (by decide)), mo_hs_cg (E 13 (by decide)) (E 21 (by decide))]
  have e5 : (mo_uz (mo_uf s 14 (s.1 12) p) 12 (s.1 12 + 1)).1 12 - 1 = s.1 12 := by
    show s.1 12 + 1 - 1 = s.1 12
    omega
  rw [e5, mo_hs_s s l h12, hz]
  simp
theorem cx_child {p : Int} (htg : aw_tg G) (hkc : 7 ≤ kc) (hks : 40 ≤ ks) (h : CR G x y z J s) (h12 : 1 ≤ s.1 12 ∧ s.1 12 ≤ 12) (h13 : ∀ i, 0 ≤ i → i < s.1 12 → 0 ≤ s.2.1 13 i ∧ s.2.1 13 i ≤ 2) (h14 : ∀ i, 1 ≤ i → i < s.1 12 → s.2.1 14 i < i) (hz : s.1 12 < 12 → s.2.1 13 (s.1 12) = 0 ∧ s.2.1 16 (2 * s.1 12) = 0 ∧ s.2.1 16 (2 * s.1 12 + 1) = 0 ∧ s.2.1 17 (s.1 12) = 0 ∧ s.2.1 23 (s.1 12) = 0) (hi : iB p) (hbad : ¬ (0 ≤ p ∧ p < s.1 12 ∧ s.2.1 13 p ≠ 2) → Q (.inr "java/lang/IllegalArgumentException") J) (hfull : 0 ≤ p ∧ p < s.1 12 ∧ s.2.1 13 p ≠ 2 → s.1 12 = 12 → Q (.inr "java/lang/IllegalStateException") J) (hok : 0 ≤ p ∧ p < s.1 12 ∧ s.2.1 13 p ≠ 2 → s.1 12 < 12 → ∀ J', cr_to G x z J (mo_uz (mo_uf s 14 (s.1 12) p) 12 (s.1 12 + 1)) J' → Q (.inl (some (.int (iI (s.1 12 + 1 - 1))))) J') : aw_W G mT_child (d + 3) Q 0 [some (.ref x), some (.int (iI p)), none] [] J kc ks := by
  obtain ⟨⟨cS, c1, c2⟩, c3⟩ := h.1.2.2.2.2.1
  by_cases g : 0 ≤ p ∧ p < s.1 12
  · have b13 := h13 p g.1 g.2
    obtain ⟨⟨r1, r2, r3, s1, s2⟩, -⟩ := c3 p g.1 g.2
    refine sp_kid (a := z 1 p) (k := (s.2.1 13 p).toNat) hkc hks h.1.1 c1 (by omega) hi (fun _ => ⟨c2 p g.1 g.2, by omega, s1⟩) (fun q => hbad (fun q2 => q ⟨g, by omega⟩)) (fun q1 q2 => hfull ⟨g.1, g.2, by omega⟩ q2) (fun q1 q2 c p1 q1 p2 q2 ab J' hf hne hS hP1 hP2 hab hrow hT hb => hok ⟨g.1, g.2, by omega⟩ (by assumption) J' ?_)
    have := C0.kid (A := fun k => if k = 1 then c else if k = 2 then p1 else if k = 3 then q1 else if k = 4 then p2 else if k = 5 then q2 else ab) htg h.1 c1 c2 ⟨h12.1, by assumption⟩ g h14 (hz (by assumption)) ?_ hne hS hP1 hP2 hab hrow hT hb
    · refine ⟨y, _, ⟨this.1, fun l l1 l2 l3 => ?_⟩, cr_zs_o (by decide), this.2.wd cr_kKd_C⟩
      have e5 : (mo_uz (mo_uf s 14 (s.1 12) p) 12 (s.1 12 + 1)).2.1 5 = s.2.1 5 := by
        funext j
        rw [mo_uz_2, mo_uf_2, if_neg (fun e => absurd e.1 (by decide))]
      have e26 : (mo_uz (mo_uf s 14 (s.1 12) p) 12 (s.1 12 + 1)).2.1 26 = s.2.1 26 := by
        funext j
        rw [mo_uz_2, mo_uf_2, if_neg (fun e => absurd e.1 (by decide))]
      rw [e5] at l3
      rw [mo_hold_kid h12.1 (hz (by assumption)).1, e26]
      exact h.2 l l1 l2 l3
    · intro k k1 k2
      have : k = 1 ∨ k = 2 ∨ k = 3 ∨ k = 4 ∨ k = 5 ∨ k = 6 := by omega
      rcases this with rfl | rfl | rfl | rfl | rfl | rfl
      · exact hf.1
      · exact hf.2.1
      · exact hf.2.2.1
      · exact hf.2.2.2.1
      · exact hf.2.2.2.2.1
      · exact hf.2.2.2.2.2
  · exact sp_kid (a := 0) (lp := 0) (ep := 0) (aa := 0) (k := 0) (rp := none) (rf := none) (r1 := none) (r2 := none) (r3 := none) (n := 0) hkc hks h.1.1 c1 (by omega) hi (fun q => absurd q g) (fun q => hbad (fun q2 => g ⟨q2.1, q2.2.1⟩)) (fun q => absurd q.1 g) (fun q => absurd q.1 g)
end CR6
/-! a type more -/
section CR7
variable {G : aw_G} {J : aw_J} {d kc ks : Nat} {Q : aw_O → aw_J → Prop} {x : Nat} {y : st_Y} {z : cr_Z} {s s' : mo_S}
/-- one number of a loader is set -/
def cr_u1 (f : Int → Int) (l v : Int) : Int → Int := fun j => if j = l then v else f j
abbrev cr_yH (y : st_Y) (Ho Dc : Int → Int) : st_Y := (yLo y, yCa y, yRf y, Ho, Dc, yA y, yFA y, yDA y, yCF y, yCD y)
def cr_zt (z : cr_Z) (n : Int) (q dl : Nat) : cr_Z := fun k j => if k = 8 then (if j = n then q else z 8 j) else if k = 9 then (if j = n then dl else z 9 j) else z k j
theorem cr_zt_o {n : Int} {q dl k : Nat} (h : k ≤ 7) : cr_zt z n q dl k = z k := by
  funext j
  unfold cr_zt
  rw [if_neg (by omega), if_neg (by omega)]
theorem cr_zt_8 {n j : Int} {q dl : Nat} : cr_zt z n q dl 8 j = if j = n then q else z 8 j := if_pos rfl
theorem cr_zt_9 {n j : Int} {q dl : Nat} : cr_zt z n q dl 9 j = if j = n then dl else z 9 j := by
  unfold cr_zt
  rw [if_neg (by decide), if_pos rfl]
/-- the loaders' cells: one loader's counts are changed -/
theorem cr_L.ho {J1 : aw_J} {K : Nat → Nat → Bool} {w : Nat} {aL : Nat} {t : mo_T} {l : Int} {Ho Dc : Int → Int} (hL : cr_L G J aL t y) (htg : aw_tg G) (ha : cr_ag G K w J J1) (k1 : cr_kI K) (k2 : cr_kA K) (k4 : K 5 41 = false) (hl : (0 ≤ l ∧ l ≤ 40) ∧ ¬ t.1 5 l = 0) (hHo : ∀ j, j ≠ l → Ho j = yHo y j ∧ Dc j = yDc y j) (hc : st_L J1 (yLo y l) l (t.1 6 l) (st_pa y t l) (yCa y l) (yRf y l) (Ho l) (Dc l) 0) (ho : ∀ j, 0 ≤ j → j ≤ 40 → ¬ t.1 5 j = 0 → j ≠ l → J1 (yLo y j) = J (yLo y j)) : cr_L G J1 aL t (cr_yH y Ho Dc) := by
  obtain ⟨⟨c, c1, c2⟩, c3⟩ := hL
  refine ⟨⟨c, ha.q htg c1 (by decide) (by decide) k4, c2⟩, fun j q1 q2 q3 => ?_⟩
  have p := cr_LB.iff.mp (c3 j q1 q2 q3)
  refine cr_LB.iff.mpr ⟨?_, p.2.ag htg ha k1 k2⟩
  by_cases e : j = l
  · subst e
    exact hc
  · show st_L J1 (yLo y j) j (t.1 6 j) (st_pa y t j) (yCa y j) (yRf y j) (Ho j) (Dc j) 0
    rw [(hHo j e).1, (hHo j e).2]
    exact (ho j q1 q2 q3 e).trans p.1
theorem mo_dc_cg {f g : Int → Int} {l : Int} : ∀ n : Nat, (∀ c, 8 ≤ c → c < 8 + (n : Int) → f c = g c) → mo_dc f l n = mo_dc g l n := by
  intro n
  induction n with
  | zero => exact fun _ => rfl
  | succ n ih =>
    intro h
    rw [mo_dc, mo_dc, ih (fun c q1 q2 => h c q1 (by omega)), h ((n : Int) + 8) (by omega) (by omega)]
def cr_kTy : Nat → Nat → Bool := fun i n => (i == 0 && (n == 4 || n == 8)) || (i == 6 && n == 120)
theorem cr_kTy_C : ∀ i n, cr_kC i n = false → cr_kTy i n = false := by
  intro i n
  simp [cr_kC, cr_kTy]
  omega
theorem C0.type {cT : Nat → Option Nat} {q : Nat} {l f ty : Int} (htg : aw_tg G) (h : C0 G x y z J s) (hTY : st_TY G J (z 0 3) cT (s.1 24) (z 8) (s.2.1 25) (s.2.1 27) (fun c => some (z 9 c)) (s.2.1 28)) (h24 : s.1 24 < 120) (hl : cr_ll s l) (hty : 0 ≤ ty ∧ ty < s.1 24) (hnm : iB (s.2.1 2 f)) (h22 : ∀ i, 0 ≤ i → i < s.1 12 → ∀ k, 0 ≤ k → k < s.2.1 23 i → s.2.1 22 (8 * i + k) < s.1 24) (hsup : ∀ c, 0 ≤ c → c < s.1 24 → -1 ≤ s.2.1 28 c ∧ s.2.1 28 c < c) (hq : J q = none) : C0 G x (cr_yH y (yHo y) (cr_u1 (yDc y) l (yDc y l + 1))) (cr_zt z (s.1 24) q (yLo y l)) (aw_up (aw_up (aw_up (aw_up J q (.inr (7, [.int (iI (s.1 24)), .int (iI (s.2.1 2 f)), .int (iI (s.2.1 2 (f + 2))), .ref (yLo y l), .ref (z 8 ty)]))) (z 0 3) (.inl (G.2.2.1 6, 120, .inr (.inr (.inr (.inr (va_up cT (s.1 24).toNat (some q)))))))) x (.inr (8, [.ref (z 0 0), .ref (z 0 1), .int (iI (s.1 12)), .ref (z 0 2), .ref (z 0 3), .int (iI (s.1 24 + 1)), .ref (z 0 4), .ref (z 0 5)]))) (yLo y l) (.inr (4, [.int (iI l), .int (iI (s.2.1 6 l)), va_rf (st_pa y s.2 l), .ref (yCa y l), va_rf (yRf y l), .int (iI (yHo y l)), .int (iI (yDc y l + 1)), .int (iI 0)]))) (mo_psh s (l, f) ty) ∧ cr_ag G cr_kTy (z 0 5) J (aw_up (aw_up (aw_up (aw_up J q (.inr (7, [.int (iI (s.1 24)), .int (iI (s.2.1 2 f)), .int (iI (s.2.1 2 (f + 2))), .ref (yLo y l), .ref (z 8 ty)]))) (z 0 3) (.inl (G.2.2.1 6, 120, .inr (.inr (.inr (.inr (va_up cT (s.1 24).toNat (some q)))))))) x (.inr (8, [.ref (z 0 0), .ref (z 0 1), .int (iI (s.1 12)), .ref (z 0 2), .ref (z 0 3), .int (iI (s.1 24 + 1)), .ref (z 0 4), .ref (z 0 5)]))) (yLo y l) (.inr (4, [.int (iI l), .int (iI (s.2.1 6 l)), va_rf (st_pa y s.2 l), .ref (yCa y l), va_rf (yRf y l), .int (iI (yHo y l)), .int (iI (yDc y l + 1)), .int (iI 0)]))) := by
  have hLl := CR.ld h hl
  obtain ⟨h1, h2, h3, h4, h6, h7, ⟨-, h8⟩, h9⟩ := h
  have n8 := hTY.2.1
  have q1 : z 0 3 ≠ q := aw_nf hTY.1 hq
  have q2 : x ≠ q := aw_nf h1 hq
  have q3 : yLo y l ≠ q := aw_nf hLl.1 hq
  have d1 : x ≠ z 0 3 := aw_ne h1 hTY.1 (fun m => by cases m)
  have d2 : yLo y l ≠ z 0 3 := aw_ne hLl.1 hTY.1 (fun m => by cases m)
  have d3 : yLo y l ≠ x := aw_ne hLl.1 h1 (fun m => by cases m)
  generalize hJ1 : (aw_up (aw_up (aw_up (aw_up J q (.inr (7, [.int (iI (s.1 24)), .int (iI (s.2.1 2 f)), .int (iI (s.2.1 2 (f + 2))), .ref (yLo y l), .ref (z 8 ty)]))) (z 0 3) (.inl (G.2.2.1 6, 120, .inr (.inr (.inr (.inr (va_up cT (s.1 24).toNat (some q)))))))) x (.inr (8, [.ref (z 0 0), .ref (z 0 1), .int (iI (s.1 12)), .ref (z 0 2), .ref (z 0 3), .int (iI (s.1 24 + 1)), .ref (z 0 4), .ref (z 0 5)]))) (yLo y l) (.inr (4, [.int (iI l), .int (iI (s.2.1 6 l)), va_rf (st_pa y s.2 l), .ref (yCa y l), va_rf (yRf y l), .int (iI (yHo y l)), .int (iI (yDc y l + 1)), .int (iI 0)]))) = J1
  have jq : J1 q = some (.inr (7, [.int (iI (s.1 24)), .int (iI (s.2.1 2 f)), .int (iI (s.2.1 2 (f + 2))), .ref (yLo y l), .ref (z 8 ty)])) := by
    rw [← hJ1, aw_up_n q3.symm, aw_up_n q2.symm, aw_up_n q1.symm, aw_up_s]
  have jT : J1 (z 0 3) = some (.inl (G.2.2.1 6, 120, .inr (.inr (.inr (.inr (va_up cT (s.1 24).toNat (some q))))))) := by
    rw [← hJ1, aw_up_n d2.symm, aw_up_n d1.symm, aw_up_s]
  have jx : J1 x = some (.inr (8, [.ref (z 0 0), .ref (z 0 1), .int (iI (s.1 12)), .ref (z 0 2), .ref (z 0 3), .int (iI (s.1 24 + 1)), .ref (z 0 4), .ref (z 0 5)])) := by
    rw [← hJ1, aw_up_n d3.symm, aw_up_s]
  have jl : J1 (yLo y l) = some (.inr (4, [.int (iI l), .int (iI (s.2.1 6 l)), va_rf (st_pa y s.2 l), .ref (yCa y l), va_rf (yRf y l), .int (iI (yHo y l)), .int (iI (yDc y l + 1)), .int (iI 0)])) := by
    rw [← hJ1, aw_up_s]
  have hb : ∀ b v, J b = some v → b ≠ z 0 3 → b ≠ x → b ≠ yLo y l → J1 b = some v := by
    intro b v m1 m2 m3 m4
    rw [← hJ1, aw_up_n m4, aw_up_n m3, aw_up_n m2, aw_up_n (aw_nf m1 hq)]
    exact m1
  clear hJ1
  have ha : ∀ w, cr_ag G cr_kTy w J J1 := by
    intro w b e q1 q2 q3
    refine hb b e q1 (fun z => ?_) (fun z => ?_) (fun z => ?_)
    · rw [z, hTY.1] at q1
      cases q1
      exact absurd (q2 6 120 (cr_shq (by decide) (by decide))) (by decide)
    · rw [z, h1] at q1
      cases q1
      exact absurd (q2 0 8 ⟨rfl, rfl⟩) (by decide)
    · rw [z, hLl.1] at q1
      cases q1
      exact absurd (q2 0 4 ⟨rfl, rfl⟩) (by decide)
  have kI : cr_kI cr_kTy := ⟨rfl, rfl, rfl, fun _ => rfl⟩
  have kA : cr_kA cr_kTy := ⟨rfl, rfl, rfl⟩
  have E : ∀ f', f' ≤ 24 → (mo_psh s (l, f) ty).2.1 f' = s.2.1 f' := by
    intro f' hf
    funext p
    unfold mo_psh
    rw [mo_uz_2, mo_uf_2, mo_uf_2, mo_uf_2, mo_uf_2, if_neg (by omega), if_neg (by omega), if_neg (by omega), if_neg (by omega)]
  have E25 : ∀ p, (mo_psh s (l, f) ty).2.1 25 p = if p = s.1 24 then s.2.1 2 f else s.2.1 25 p := by
    intro p
    simp only [mo_psh, mo_uz_2, mo_uf_2, mo_uf_1, Nat.reduceEqDiff, false_and, true_and, if_false]
  have E26 : ∀ p, (mo_psh s (l, f) ty).2.1 26 p = if p = s.1 24 then l else s.2.1 26 p := by
    intro p
    simp only [mo_psh, mo_uz_2, mo_uf_2, mo_uf_1, Nat.reduceEqDiff, false_and, true_and, if_false]
  have E27 : ∀ p, (mo_psh s (l, f) ty).2.1 27 p = if p = s.1 24 then s.2.1 2 (f + 2) else s.2.1 27 p := by
    intro p
    simp only [mo_psh, mo_uz_2, mo_uf_2, mo_uf_1, Nat.reduceEqDiff, false_and, true_and, if_false]
  have E28 : ∀ p, (mo_psh s (l, f) ty).2.1 28 p = if p = s.1 24 then ty else s.2.1 28 p := by
    intro p
    simp only [mo_psh, mo_uz_2, mo_uf_2, mo_uf_1, Nat.reduceEqDiff, false_and, true_and, if_false]
  have e12 : (mo_psh s (l, f) ty).1 12 = s.1 12 := rfl
  have e24 : (mo_psh s (l, f) ty).1 24 = s.1 24 + 1 := rfl
  have E2 : (mo_psh s (l, f) ty).2.2 = s.2.2 := rfl
  generalize mo_psh s (l, f) ty = s' at E E25 E26 E27 E28 e12 e24 E2
  have zo := fun j => congrFun (cr_zt_o (z := z) (n := s.1 24) (q := q) (dl := yLo y l) (k := 0) (by decide)) j
  have zk := fun k (hk : k ≤ 7) => cr_zt_o (z := z) (n := s.1 24) (q := q) (dl := yLo y l) (k := k) hk
  have b2 : cr_st G J1 s'.2 = cr_st G J1 s.2 := by
    funext y k
    simp only [cr_st, E 1 (by decide), E 2 (by decide), E 3 (by decide), E 4 (by decide)]
  have b1 : cr_lv s'.2 = cr_lv s.2 := by
    funext k
    simp only [cr_lv, E 5 (by decide), E 8 (by decide)]
  have b3 : cr_LB G J1 s'.2 = cr_LB G J1 s.2 := by
    funext y l
    simp only [cr_LB, b2, E 6 (by decide), E 8 (by decide), E 9 (by decide), E2]
  refine ⟨⟨?_, ?_, ?_, ?_, ?_, ?_, ?_, ?_⟩, ha _⟩
  · rw [zo, zo, zo, zo, zo, zo, e12, e24]; exact jx
  · rw [zo]
    have := h2.ag htg (ha 0) kI kA
    exact ⟨this.1, fun k q1 q2 => by rw [b2]; exact this.2 k q1 q2⟩
  · exact fun k k' q1 q2 => h3 k k' (by rw [← b1]; exact q1) (by rw [← b1]; exact q2)
  · rw [zo]
    have L := h4.ho (l := l) (Ho := yHo y) (Dc := cr_u1 (yDc y) l (yDc y l + 1)) htg (ha 0) kI kA rfl hl (fun j e => ⟨rfl, if_neg e⟩) (by rw [show cr_u1 (yDc y) l (yDc y l + 1) l = yDc y l + 1 from if_pos rfl]; exact jl) (fun j j1 j2 j3 j4 => by
      have c := (h4.2 j j1 j2 j3)
      exact (hb _ _ c.1 (aw_ne c.1 hTY.1 (fun m => by cases m)) (aw_ne c.1 h1 (fun m => by cases m)) (fun m => j4 (c.inj hLl (by omega) ⟨by have := hl.1; omega, by have := hl.1; omega⟩ m))).trans c.1.symm)
    obtain ⟨⟨c, d1, d2⟩, d3⟩ := L
    refine ⟨⟨c, d1, fun l q1 q2 => by rw [E 5 (by decide)]; exact d2 l q1 q2⟩, fun l q1 q2 q3 => ?_⟩
    rw [cr_LB.iff, b3]
    simp only [st_pa, E 6 (by decide), E 7 (by decide)]
    exact cr_LB.iff.mp (d3 l q1 q2 (by rw [← E 5 (by decide)]; exact q3))
  · have S := (h6.ag htg (ha 0) kI ⟨rfl, rfl, rfl, rfl⟩ rfl).cg e12 (fun k q1 q2 => E k (by omega)) E2
    unfold cr_S at S ⊢
    rw [zo, zk 1 (by decide)]
    refine ⟨S.1, fun i i1 i2 => ?_⟩
    have S1 := S.2 i i1 i2
    unfold cr_S1 at S1 ⊢
    rw [zk 1 (by decide), zk 2 (by decide), zk 3 (by decide), zk 4 (by decide), zk 5 (by decide), zk 6 (by decide), zk 7 (by decide)]
    obtain ⟨p1, p2, p3, p4, ap, p5⟩ := S1
    refine ⟨p1, p2, p3, p4, ap, p5.1, p5.2.1, fun j j1 j2 => ?_⟩
    have p6 := p5.2.2 j j1 j2
    rw [e12] at i2
    rw [E 23 (by decide)] at j2
    have := h22 i i1 i2 j j1 j2
    show ap j.toNat = some (cr_zt z (s.1 24) q (yLo y l) 8 (s'.2.1 22 (8 * i + j)))
    rw [cr_zt_8, if_neg (by rw [E 22 (by decide)]; omega)]
    exact p6
  · rw [e12]
    unfold cr_SI at h7 ⊢
    rw [zk 1 (by decide), zk 2 (by decide), zk 3 (by decide), zk 4 (by decide), zk 5 (by decide), zk 6 (by decide)]
    exact h7
  · refine ⟨⟨va_up cT (s.1 24).toNat (some q), ?_⟩, fun c c1 c2 => ?_⟩
    · rw [e24, zo]
      refine ⟨jT, ⟨by omega, by omega⟩, fun c c1 c2 => ?_⟩
      by_cases e : c = s.1 24
      · subst e
        refine ⟨by rw [E25, if_pos rfl]; exact hnm, ?_, ?_⟩
        · rw [cr_zt_8, if_pos rfl]
          exact va_up_self _ _ _
        · simp only [cr_zt_8, cr_zt_9, E25, E27, E28, eq_self, if_true]
          unfold st_o
          rw [if_neg (by omega), cr_zt_8, if_neg (by omega)]
          exact jq
      · obtain ⟨t1, t2, t3⟩ := hTY.2.2 c c1 (by omega)
        have t4 := hsup c c1 (by omega)
        refine ⟨by rw [E25, if_neg e]; exact t1, ?_, ?_⟩
        · rw [cr_zt_8, if_neg e]
          exact (va_up_ne _ _ (by omega)).trans t2
        · simp only [cr_zt_8, cr_zt_9, E25, E27, E28, e, if_false]
          have e5 : st_o (cr_zt z (s.1 24) q (yLo y l) 8) (s.2.1 28 c) = st_o (z 8) (s.2.1 28 c) := by
            unfold st_o
            split
            · rfl
            · rw [cr_zt_8, if_neg (by omega)]
          rw [e5]
          exact hb _ _ t3 (aw_ne t3 hTY.1 (fun m => by cases m)) (aw_ne t3 h1 (fun m => by cases m)) (aw_ne t3 hLl.1 (fun m => by cases m))
    · rw [e24] at c2
      unfold cr_D
      rw [E26, cr_zt_9]
      by_cases e : c = s.1 24
      · rw [if_pos e, if_pos e]
        exact ⟨fun _ => rfl, fun m => absurd m (by have := hl.1.1; omega)⟩
      · rw [if_neg e, if_neg e]
        obtain ⟨g1, g2⟩ := h8 c c1 (by omega)
        refine ⟨g1, fun m => ?_⟩
        obtain ⟨l', k', rp, ca, rf, h', dc, e'⟩ := g2 m
        refine ⟨l', k', rp, ca, rf, h', dc, hb _ _ e' (aw_ne e' hTY.1 (fun m => by cases m)) (aw_ne e' h1 (fun m => by cases m)) (aw_ne e' hLl.1 (fun m => ?_))⟩
        injection m with m
        injection m with _ m
        injection m with _ m
        injection m with _ m
        injection m with _ m
        injection m with _ m
        injection m with _ m
        injection m with _ m
        injection m with _ m
        injection m with m _
        injection m with m
        exact absurd m (by decide)
  · obtain ⟨⟨oL, o1⟩, oN, o2, o3⟩ := h9
    unfold cr_O
    rw [zo, zo]
    exact ⟨⟨oL, (ha 0).q htg o1 (by decide) (by decide) rfl⟩, oN, hb _ _ o2 (aw_ne o2 hTY.1 (fun m => by injection m with m; injection m with _ m; injection m with m _; exact absurd m (by decide))) (aw_ne o2 h1 (fun m => by cases m)) (aw_ne o2 hLl.1 (fun m => by cases m)), o3⟩
end CR7
/-! counts of holders; a loader that goes -/
section CR8
variable {G : aw_G} {J : aw_J} {d kc ks : Nat} {Q : aw_O → aw_J → Prop} {x : Nat} {y : st_Y} {z : cr_Z} {s s' : mo_S}
theorem cr_H.type {l f ty : Int} (h : cr_H s y) (h24 : 8 ≤ s.1 24) : cr_H (mo_psh s (l, f) ty) (cr_yH y (yHo y) (cr_u1 (yDc y) l (yDc y l + 1))) := by
  have E : ∀ f', f' ≤ 24 → (mo_psh s (l, f) ty).2.1 f' = s.2.1 f' := by
    intro f' hf
    funext p
    unfold mo_psh
    rw [mo_uz_2, mo_uf_2, mo_uf_2, mo_uf_2, mo_uf_2, if_neg (by omega), if_neg (by omega), if_neg (by omega), if_neg (by omega)]
  have E26 : ∀ p, (mo_psh s (l, f) ty).2.1 26 p = if p = s.1 24 then l else s.2.1 26 p := by
    intro p
    simp only [mo_psh, mo_uz_2, mo_uf_2, Nat.reduceEqDiff, false_and, true_and, if_false]
  have e24 : (mo_psh s (l, f) ty).1 24 = s.1 24 + 1 := rfl
  intro l' q1 q2 q3
  rw [E 5 (by decide)] at q3
  have h' := h l' q1 q2 q3
  rw [mo_hold_cg (s := s) (s' := mo_psh s (l, f) ty) rfl (E 5 (by decide)) (E 7 (by decide)) (E 13 (by decide)) (E 21 (by decide)), e24, mo_dc_s _ _ h24, mo_dc_cg (g := s.2.1 26) _ (fun c c1 c2 => by rw [E26, if_neg (by omega)]), E26, if_pos rfl]
  refine ⟨h'.1, ?_⟩
  show cr_u1 (yDc y) l (yDc y l + 1) l' = _
  unfold cr_u1
  by_cases e : l' = l
  · subst e
    rw [if_pos rfl, if_pos rfl, h'.2]
  · rw [if_neg e, if_neg (fun m => e m.symm), Int.add_zero]
    exact h'.2
def cr_kHo : Nat → Nat → Bool := fun i n => i == 0 && n == 4
theorem cr_kHo_C : ∀ i n, cr_kC i n = false → cr_kHo i n = false := by
  intro i n
  simp [cr_kC, cr_kHo]
  omega
/-- the cell of the loader l with h holders -/
abbrev cr_cl (y : st_Y) (t : mo_T) (l h g : Int) : va_E := .inr (4, [.int (iI l), .int (iI (t.1 6 l)), va_rf (st_pa y t l), .ref (yCa y l), va_rf (yRf y l), .int (iI h), .int (iI (yDc y l)), .int (iI g)])
theorem C0.ho {l h' : Int} (htg : aw_tg G) (h : C0 G x y z J s) (hl : cr_ll s l) : C0 G x (cr_yH y (cr_u1 (yHo y) l h') (yDc y)) z (aw_up J (yLo y l) (cr_cl y s.2 l h' 0)) s ∧ cr_ag G cr_kHo (z 0 5) J (aw_up J (yLo y l) (cr_cl y s.2 l h' 0)) := by
  have hLl := CR.ld h hl
  obtain ⟨h1, h2, h3, h4, h6, h7, h8, h9⟩ := h
  have ha : ∀ w, cr_ag G cr_kHo w J (aw_up J (yLo y l) (cr_cl y s.2 l h' 0)) := fun w => cr_ag.rf.u hLl.1 ⟨rfl, rfl⟩ rfl
  have kI : cr_kI cr_kHo := ⟨rfl, rfl, rfl, fun _ => rfl⟩
  have kA : cr_kA cr_kHo := ⟨rfl, rfl, rfl⟩
  have hb : ∀ b v, J b = some v → b ≠ yLo y l → aw_up J (yLo y l) (cr_cl y s.2 l h' 0) b = some v := fun b v m1 m2 => (aw_up_n m2).trans m1
  refine ⟨⟨(ha 0).o h1 rfl, h2.ag htg (ha 0) kI kA, h3, ?_, h6.ag htg (ha 0) kI ⟨rfl, rfl, rfl, rfl⟩ rfl, h7, ?_, ?_⟩, ha _⟩
  · exact h4.ho (l := l) (Ho := cr_u1 (yHo y) l h') (Dc := yDc y) htg (ha 0) kI kA rfl hl (fun j e => ⟨if_neg e, rfl⟩) (by rw [show cr_u1 (yHo y) l h' l = h' from if_pos rfl]; exact aw_up_s) (fun j j1 j2 j3 j4 => by
      have c := (h4.2 j j1 j2 j3)
      exact aw_up_n (fun m => j4 (c.inj hLl (by omega) ⟨by have := hl.1; omega, by have := hl.1; omega⟩ m)))
  · obtain ⟨⟨cT, t1⟩, t2⟩ := h8
    refine ⟨⟨cT, t1.ag htg (ha 0) rfl rfl⟩, fun c c1 c2 => ⟨(t2 c c1 c2).1, fun m => ?_⟩⟩
    obtain ⟨l', k', rp, ca, rf, h', dc, e'⟩ := (t2 c c1 c2).2 m
    refine ⟨l', k', rp, ca, rf, h', dc, hb _ _ e' (aw_ne e' hLl.1 (fun m => ?_))⟩
    injection m with m
    injection m with _ m
    injection m with _ m
    injection m with _ m
    injection m with _ m
    injection m with _ m
    injection m with _ m
    injection m with _ m
    injection m with _ m
    injection m with m _
    injection m with m
    exact absurd m (by decide)
  · obtain ⟨⟨oL, o1⟩, oN, o2, o3⟩ := h9
    exact ⟨⟨oL, (ha 0).q htg o1 (by decide) (by decide) rfl⟩, oN, hb _ _ o2 (aw_ne o2 hLl.1 (fun m => by cases m)), o3⟩
def cr_kGo : Nat → Nat → Bool := fun i n => (i == 0 && n == 4) || (i == 5 && n == 41)
theorem cr_kGo_C : ∀ i n, cr_kC i n = false → cr_kGo i n = false := by
  intro i n
  simp [cr_kC, cr_kGo]
  omega
theorem mo_rem_o (s : mo_S) (l : Int) {k : Nat} (h5 : k ≠ 5) (h26 : k ≠ 26) : (mo_rem s l).2.1 k = s.2.1 k := by
  unfold mo_rem
  rw [mo_rmc_o _ h26]
  funext i
  rw [mo_uf_2, if_neg (fun e => h5 e.1)]
theorem mo_rem_26 (s : mo_S) (l c : Int) : (mo_rem s l).2.1 26 c = if (8 ≤ c ∧ c < s.1 24) ∧ s.2.1 26 c = l then -1 else s.2.1 26 c := by
  show (if 26 = 26 ∧ (8 ≤ c ∧ c < s.1 24) ∧ (mo_uf s 5 l 0).2.1 26 c = l then -1 else (mo_uf s 5 l 0).2.1 26 c) = _
  have : (mo_uf s 5 l 0).2.1 26 c = s.2.1 26 c := by rw [mo_uf_2, if_neg (fun e => absurd e.1 (by decide))]
  rw [this]
  simp only [true_and]
/-- the loader l goes -/
theorem C0.gone {cL : Nat → Option Nat} {l h' : Int} (htg : aw_tg G) (h : C0 G x y z J s) (hl : cr_ll s l) (hl1 : 1 ≤ l) (hD : ∀ c, 0 ≤ c → c < s.1 24 → s.2.1 26 c = l → 8 ≤ c) (hcL : J (z 0 2) = some (.inl (G.2.2.1 5, 41, .inr (.inr (.inr (.inr cL)))))) (hcl : ∀ j, 0 ≤ j → j ≤ 40 → (s.2.1 5 j = 0 → cL j.toNat = none) ∧ (¬ s.2.1 5 j = 0 → cL j.toNat = some (yLo y j))) : C0 G x y z (aw_up (aw_up J (yLo y l) (cr_cl y s.2 l h' 1)) (z 0 2) (.inl (G.2.2.1 5, 41, .inr (.inr (.inr (.inr (va_up cL l.toNat none))))))) (mo_rem s l) ∧ cr_ag G cr_kGo (z 0 5) J (aw_up (aw_up J (yLo y l) (cr_cl y s.2 l h' 1)) (z 0 2) (.inl (G.2.2.1 5, 41, .inr (.inr (.inr (.inr (va_up cL l.toNat none))))))) := by
  have hLl := CR.ld h hl
  obtain ⟨h1, h2, h3, h4, h6, h7, h8, h9⟩ := h
  have d1 : yLo y l ≠ z 0 2 := aw_ne hLl.1 hcL (fun m => by cases m)
  generalize hJ1 : aw_up (aw_up J (yLo y l) (cr_cl y s.2 l h' 1)) (z 0 2) (.inl (G.2.2.1 5, 41, .inr (.inr (.inr (.inr (va_up cL l.toNat none)))))) = J1
  have jl : J1 (yLo y l) = some (cr_cl y s.2 l h' 1) := by rw [← hJ1, aw_up_n d1, aw_up_s]
  have jr : J1 (z 0 2) = some (.inl (G.2.2.1 5, 41, .inr (.inr (.inr (.inr (va_up cL l.toNat none)))))) := by rw [← hJ1, aw_up_s]
  have hb : ∀ b v, J b = some v → b ≠ yLo y l → b ≠ z 0 2 → J1 b = some v := by
    intro b v m1 m2 m3
    rw [← hJ1, aw_up_n m3, aw_up_n m2]
    exact m1
  clear hJ1
  have ha : ∀ w, cr_ag G cr_kGo w J J1 := by
    intro w b e q1 q2 q3
    refine hb b e q1 (fun z => ?_) (fun z => ?_)
    · rw [z, hLl.1] at q1
      cases q1
      exact absurd (q2 0 4 ⟨rfl, rfl⟩) (by decide)
    · rw [z, hcL] at q1
      cases q1
      exact absurd (q2 5 41 (cr_shq (by decide) (by decide))) (by decide)
  have kI : cr_kI cr_kGo := ⟨rfl, rfl, rfl, fun _ => rfl⟩
  have kA : cr_kA cr_kGo := ⟨rfl, rfl, rfl⟩
  have E : ∀ f, f ≠ 5 → f ≠ 26 → (mo_rem s l).2.1 f = s.2.1 f := fun f => mo_rem_o s l
  have E5 := mo_rem_5 s l
  have E26 := mo_rem_26 s l
  have e12 : (mo_rem s l).1 12 = s.1 12 := rfl
  have e24 : (mo_rem s l).1 24 = s.1 24 := rfl
  have E2 : (mo_rem s l).2.2 = s.2.2 := rfl
  generalize mo_rem s l = s' at E E5 E26 e12 e24 E2
  have e5 : ∀ j, s'.2.1 5 j = if j = l then 0 else s.2.1 5 j := fun j => by rw [E5]
  have b2 : cr_st G J1 s'.2 = cr_st G J1 s.2 := by
    funext y k
    simp only [cr_st, E 1 (by decide) (by decide), E 2 (by decide) (by decide), E 3 (by decide) (by decide), E 4 (by decide) (by decide)]
  have b3 : cr_LB G J1 s'.2 = cr_LB G J1 s.2 := by
    funext y l
    simp only [cr_LB, b2, E 6 (by decide) (by decide), E 8 (by decide) (by decide), E 9 (by decide) (by decide), E2]
  have b1 : ∀ k, cr_lv s'.2 k → cr_lv s.2 k := by
    intro k hk
    rcases hk with hk | ⟨l', i, k1, k2, k3, k4⟩
    · exact Or.inl hk
    · rw [e5] at k2
      rw [E 8 (by decide) (by decide)] at k3
      by_cases e : l' = l
      · rw [if_pos e] at k2
        exact absurd rfl k2
      · rw [if_neg e] at k2
        exact Or.inr ⟨l', i, k1, k2, k3, k4⟩
  refine ⟨⟨by rw [e12, e24]; exact (ha 0).o h1 rfl, ?_, ?_, ⟨⟨va_up cL l.toNat none, jr, ?_⟩, ?_⟩, ?_, by rw [e12]; exact h7, ?_, ?_⟩, ha _⟩
  · have := h2.ag htg (ha 0) kI kA
    exact ⟨this.1, fun k q1 q2 => by rw [b2]; exact this.2 k q1 q2⟩
  · exact fun k k' q1 q2 => h3 k k' (b1 k q1) (b1 k' q2)
  · intro j q1 q2
    rw [e5]
    by_cases e : j = l
    · rw [if_pos e, e]
      exact ⟨fun _ => va_up_self _ _ _, fun m => absurd rfl m⟩
    · rw [if_neg e, va_up_ne _ _ (by have := hl.1; omega)]
      exact hcl j q1 q2
  · intro j q1 q2 q3
    rw [e5] at q3
    by_cases e : j = l
    · rw [if_pos e] at q3
      exact absurd rfl q3
    · rw [if_neg e] at q3
      have c := cr_LB.iff.mp (h4.2 j q1 q2 q3)
      rw [cr_LB.iff, b3]
      simp only [st_pa, E 6 (by decide) (by decide), E 7 (by decide) (by decide)]
      exact ⟨hb _ _ c.1 (fun m => e ((h4.2 j q1 q2 q3).inj hLl (by omega) ⟨by have := hl.1; omega, by have := hl.1; omega⟩ m)) (aw_ne c.1 hcL (fun m => by cases m)), c.2.ag htg (ha 0) kI kA⟩
  · exact (h6.ag htg (ha 0) kI ⟨rfl, rfl, rfl, rfl⟩ rfl).cg e12 (fun k q1 q2 => E k (by omega) (by omega)) E2
  · obtain ⟨⟨cT, t1⟩, t2⟩ := h8
    refine ⟨⟨cT, ?_⟩, fun c c1 c2 => ?_⟩
    · rw [e24, E 25 (by decide) (by decide), E 27 (by decide) (by decide), E 28 (by decide) (by decide)]
      exact t1.ag htg (ha 0) rfl rfl
    · rw [e24] at c2
      unfold cr_D
      rw [E26]
      by_cases e : s.2.1 26 c = l
      · rw [if_pos ⟨⟨hD c c1 c2 e, c2⟩, e⟩]
        refine ⟨fun m => absurd m (by decide), fun _ => ?_⟩
        have := (t2 c c1 c2).1 (by omega)
        rw [this, e]
        exact ⟨_, _, _, _, _, _, _, jl⟩
      · rw [if_neg (fun m => e m.2)]
        refine ⟨(t2 c c1 c2).1, fun m => ?_⟩
        obtain ⟨l', k', rp, ca, rf, h', dc, e'⟩ := (t2 c c1 c2).2 m
        refine ⟨l', k', rp, ca, rf, h', dc, hb _ _ e' (aw_ne e' hLl.1 (fun m => ?_)) (aw_ne e' hcL (fun m => by cases m))⟩
        injection m with m
        injection m with _ m
        injection m with _ m
        injection m with _ m
        injection m with _ m
        injection m with _ m
        injection m with _ m
        injection m with _ m
        injection m with _ m
        injection m with m _
        injection m with m
        exact absurd m (by decide)
  · obtain ⟨⟨oL, o1⟩, oN, o2, o3⟩ := h9
    exact ⟨⟨oL, (ha 0).q htg o1 (by decide) (by decide) rfl⟩, oN, hb _ _ o2 (aw_ne o2 hLl.1 (fun m => by cases m)) (aw_ne o2 hcL (fun m => by injection m with m; injection m with _ m; injection m with m _; exact absurd m (by decide))), o3⟩
end CR8
