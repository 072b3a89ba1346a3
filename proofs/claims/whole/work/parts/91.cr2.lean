/-! the class's calls over the state: wipe, file, descriptor, add, filter, loader, applied -/
section CR3
variable {G : aw_G} {J : aw_J} {d kc ks : Nat} {Q : aw_O → aw_J → Prop} {x : Nat} {y : st_Y} {z : cr_Z} {s s' : mo_S}
theorem cr_H.cg {y' : st_Y} (h : cr_H s y) (hy : yHo y' = yHo y ∧ yDc y' = yDc y) (e12 : s'.1 12 = s.1 12) (e24 : s'.1 24 = s.1 24) (a5 : s'.2.1 5 = s.2.1 5) (a7 : s'.2.1 7 = s.2.1 7) (a13 : s'.2.1 13 = s.2.1 13) (a21 : s'.2.1 21 = s.2.1 21) (a26 : s'.2.1 26 = s.2.1 26) : cr_H s' y' := by
  intro l q1 q2 q3
  rw [hy.1, hy.2, mo_hold_cg e12 a5 a7 a13 a21, e24, a26]
  exact h l q1 q2 (by rw [← a5]; exact q3)
theorem cr_kSh_C : ∀ i n, cr_kC i n = false → cr_kSh i n = false := by
  intro i n
  simp [cr_kC, cr_kSh]
  omega
theorem cr_kSc_C : ∀ i n, cr_kC i n = false → cr_kSc i n = false := by
  intro i n
  simp [cr_kC, cr_kSc]
  omega
theorem cx_wipe {i : Int} (htg : aw_tg G) (hkc : 1 ≤ kc) (hks : 6 ≤ ks) (h : CR G x y z J s) (h80 : s.2.1 8 0 = 0) (hi : iB i) (hbad : ¬ (0 ≤ i ∧ i < 10) → Q (.inr "java/lang/IllegalArgumentException") J) (hok : 0 ≤ i ∧ i < 10 → ∀ J', cr_to G x z J (mo_uf (mo_uf (mo_uz s 0 0) 1 i 0) 3 i 0) J' → Q (.inl none) J') : aw_W G mT_wipe (d + 2) Q 0 [some (.ref x), some (.int (iI i)), none] [] J kc ks := by
  obtain ⟨⟨cA, c1, c2⟩, c3⟩ := h.1.2.1
  refine sp_wipe (a := yA y i) (fa := yFA y i) (da := yDA y i) (cf := yCF y i) (cd := yCD y i) (nn := s.2.1 1 i) (mm := s.2.1 3 i) hkc hks h.1.1 c1 hi (fun q => ⟨c2 i q.1 (by omega), (c3 i q.1 (by omega)).1⟩) hbad (fun q => hok q _ ?_)
  have S := c3 i q.1 (by omega)
  have := C0.sheet (w := z 0 5) (CF := yCF y) (CD := yCD y) (i := i) (J1 := aw_up J (yA y i) (.inr (0, [.ref (yFA y i), .int (iI 0), .ref (yDA y i), .int (iI 0)]))) (s' := mo_uf (mo_uf (mo_uz s 0 0) 1 i 0) 3 i 0) htg h.1 h80 ⟨q.1, by omega⟩ (fun b e h1 h2 _ _ => (aw_up_n h2).trans h1) (fun _ _ => ⟨rfl, rfl⟩) ?_ rfl rfl ?_ rfl ?_
  · refine ⟨_, z, ⟨this.1, ?_⟩, rfl, this.2.wd cr_kSh_C⟩
    exact h.2.cg ⟨rfl, rfl⟩ rfl rfl rfl rfl rfl rfl rfl
  · intro k hk
    refine ⟨?_, ?_, fun j _ _ => rfl, fun j _ _ => rfl⟩
    · show (if 1 = 3 ∧ k = i then 0 else if 1 = 1 ∧ k = i then 0 else s.2.1 1 k) = _
      rw [if_neg (fun e => absurd e.1 (by decide)), if_neg (fun e => hk e.2)]
    · show (if 3 = 3 ∧ k = i then 0 else if 3 = 1 ∧ k = i then 0 else s.2.1 3 k) = _
      rw [if_neg (fun e => hk e.2), if_neg (fun e => absurd e.1 (by decide))]
  · intro k k1 k2
    funext j
    show (if k = 3 ∧ j = i then 0 else if k = 1 ∧ j = i then 0 else s.2.1 k j) = _
    rw [if_neg (fun e => absurd e.1 (by omega)), if_neg (fun e => absurd e.1 (by omega))]
  · have e1 : (mo_uf (mo_uf (mo_uz s 0 0) 1 i 0) 3 i 0).2.1 1 i = 0 := by
      show (if 1 = 3 ∧ i = i then 0 else if 1 = 1 ∧ i = i then 0 else s.2.1 1 i) = 0
      rw [if_neg (fun e => absurd e.1 (by decide)), if_pos ⟨rfl, rfl⟩]
    have e3 : (mo_uf (mo_uf (mo_uz s 0 0) 1 i 0) 3 i 0).2.1 3 i = 0 := by
      show (if 3 = 3 ∧ i = i then 0 else if 3 = 1 ∧ i = i then 0 else s.2.1 3 i) = 0
      rw [if_pos ⟨rfl, rfl⟩]
    unfold cr_st
    rw [e1, e3]
    exact ⟨⟨aw_up_s, (aw_up_n (aw_ne S.1.2.1 S.1.1 (fun m => by cases m))).trans S.1.2.1, (aw_up_n (aw_ne S.1.2.2.1 S.1.1 (fun m => by cases m))).trans S.1.2.2.1, by decide, by decide⟩, fun j q1 q2 => absurd q2 (by omega), fun j q1 q2 => absurd q2 (by omega)⟩
/-- one cell of a row of cells is set -/
def cr_c1 (C : Int → Nat → Option Nat) (i : Int) (c : Nat → Option Nat) : Int → Nat → Option Nat := fun k => if k = i then c else C k
theorem cr_c1_n {C : Int → Nat → Option Nat} {i k : Int} {c : Nat → Option Nat} (h : k ≠ i) : cr_c1 C i c k = C k := if_neg h
theorem cr_c1_s {C : Int → Nat → Option Nat} {i : Int} {c : Nat → Option Nat} : cr_c1 C i c i = c := if_pos rfl
theorem cx_file {i n u v : Int} (htg : aw_tg G) (hkc : 3 ≤ kc) (hks : 15 ≤ ks) (h : CR G x y z J s) (h80 : s.2.1 8 0 = 0) (hi : iB i) (hn : iB n) (hu : iB u) (hv : iB v) (hbad : ¬ ((0 ≤ i ∧ i < 10) ∧ (8 ≤ n ∧ n < 64) ∧ (0 ≤ u ∧ u < 64) ∧ (0 ≤ v ∧ v < 10)) → Q (.inr "java/lang/IllegalArgumentException") J) (hfull : (0 ≤ i ∧ i < 10) ∧ (8 ≤ n ∧ n < 64) ∧ (0 ≤ u ∧ u < 64) ∧ (0 ≤ v ∧ v < 10) → ∀ k, mo_lst (fun j => s.2.1 2 (24 * i + 3 * j) = n) (s.2.1 1 i) k → k = 8 → ∀ J', cr_to G x z J s J' → Q (.inr "java/lang/IllegalStateException") J') (hok : (0 ≤ i ∧ i < 10) ∧ (8 ≤ n ∧ n < 64) ∧ (0 ≤ u ∧ u < 64) ∧ (0 ≤ v ∧ v < 10) → ∀ k, mo_lst (fun j => s.2.1 2 (24 * i + 3 * j) = n) (s.2.1 1 i) k → k < 8 → ∀ J', cr_to G x z J (mo_filed s i n u v k (if s.2.1 1 i < k + 1 then k + 1 else s.2.1 1 i)) J' → Q (.inl (some (.int (iI (if s.2.1 1 i < k + 1 then k + 1 else s.2.1 1 i))))) J') : aw_W G mT_file (d + 3) Q 0 [some (.ref x), some (.int (iI i)), some (.int (iI n)), some (.int (iI u)), some (.int (iI v)), none] [] J kc ks := by
  obtain ⟨⟨cA, c1, c2⟩, c3⟩ := h.1.2.1
  refine sp_file (a := yA y i) (fa := yFA y i) (da := yDA y i) (cf := yCF y i) (cd := yCD y i) (nn := s.2.1 1 i) (mm := s.2.1 3 i) (F := fun j => (s.2.1 2 (24 * i + 3 * j), s.2.1 2 (24 * i + 3 * j + 1), s.2.1 2 (24 * i + 3 * j + 2))) hkc hks h.1.1 c1 hi hn hu hv (fun q => ⟨c2 i q.1 (by omega), (c3 i q.1 (by omega)).1, (c3 i q.1 (by omega)).2.1⟩) hbad (fun g k hk k8 q hq => hfull g k hk k8 _ ?_) (fun g k hk k8 q hq => hok g k hk k8 _ ?_)
  · have ag : ∀ K, cr_ag G K (z 0 5) J (aw_up J q (.inr (1, [.int (iI n), .int (iI u), .int (iI v)]))) := fun K => cr_ag.rf.n hq
    obtain ⟨oN, h1, _⟩ := h.1.2.2.2.2.2.2.2.2
    exact ⟨y, z, ⟨h.1.ag htg (ag (fun _ _ => false)) ⟨⟨rfl, rfl, rfl, fun _ => rfl⟩, ⟨rfl, rfl, rfl⟩, ⟨rfl, rfl, rfl, rfl⟩, rfl, rfl, rfl, rfl, rfl, rfl, rfl⟩ (aw_up_n (aw_nf h1 hq)), h.2⟩, rfl, ag _⟩
  · have S := c3 i g.1.1 (by omega)
    have hk0 := hk.1
    have hk1 := hk.2.1
    have b8 := S.1.2.2.2.1
    generalize hN : (if s.2.1 1 i < k + 1 then k + 1 else s.2.1 1 i) = N
    have hN8 : 0 ≤ N ∧ N ≤ 8 ∧ s.2.1 1 i ≤ N ∧ k < N ∧ (N = s.2.1 1 i ∨ N = k + 1) := by rw [← hN]; split <;> omega
    have u1 : yFA y i ≠ q := aw_nf S.1.2.1 hq
    have u2 : yA y i ≠ q := aw_nf S.1.1 hq
    have u3 : yA y i ≠ yFA y i := aw_ne S.1.1 S.1.2.1 (fun m => by cases m)
    have E : ∀ (f : Nat) (p : Int), f ≠ 2 → f ≠ 1 → (mo_filed s i n u v k N).2.1 f p = s.2.1 f p := by
      intro f p h1 h2
      simp only [mo_filed, mo_uf_2, mo_uz_2, h1, h2, false_and, if_false]
    have E2 : ∀ p, (mo_filed s i n u v k N).2.1 2 p = if p = 24 * i + 3 * k + 2 then v else if p = 24 * i + 3 * k + 1 then u else if p = 24 * i + 3 * k then n else s.2.1 2 p := by
      intro p
      simp only [mo_filed, mo_uf_2, mo_uz_2, Nat.reduceEqDiff, false_and, true_and, if_false]
    have E1 : ∀ p, (mo_filed s i n u v k N).2.1 1 p = if p = i then N else s.2.1 1 p := by
      intro p
      simp only [mo_filed, mo_uf_2, mo_uz_2, Nat.reduceEqDiff, false_and, true_and, if_false]
    have := C0.sheet (w := z 0 5) (CF := cr_c1 (yCF y) i (va_up (yCF y i) k.toNat (some q))) (CD := yCD y) (i := i) (J1 := aw_up (aw_up (aw_up J q (.inr (1, [.int (iI n), .int (iI u), .int (iI v)]))) (yFA y i) (.inl (G.2.2.1 7, 8, .inr (.inr (.inr (.inr (va_up (yCF y i) k.toNat (some q)))))))) (yA y i) (.inr (0, [.ref (yFA y i), .int (iI N), .ref (yDA y i), .int (iI (s.2.1 3 i))]))) (s' := mo_filed s i n u v k N) htg h.1 h80 ⟨g.1.1, by omega⟩ (fun b e h1 h2 h3 _ => (aw_up_n h2).trans ((aw_up_n h3).trans ((aw_up_n (aw_nf h1 hq)).trans h1))) (fun k' hk' => ⟨cr_c1_n hk', rfl⟩) ?_ rfl rfl ?_ rfl ?_
    · refine ⟨_, z, ⟨this.1, ?_⟩, rfl, this.2.wd cr_kSh_C⟩
      exact h.2.cg ⟨rfl, rfl⟩ rfl rfl (funext (fun p => E 5 p (by decide) (by decide))) (funext (fun p => E 7 p (by decide) (by decide))) (funext (fun p => E 13 p (by decide) (by decide))) (funext (fun p => E 21 p (by decide) (by decide))) (funext (fun p => E 26 p (by decide) (by decide)))
    · intro k' hk'
      refine ⟨?_, E 3 _ (by decide) (by decide), fun j j1 j2 => ?_, fun j _ _ => E 4 _ (by decide) (by decide)⟩
      · rw [E1, if_neg hk']
      · rw [E2, if_neg (by omega), if_neg (by omega), if_neg (by omega)]
    · exact fun f f1 f2 => funext (fun p => E f p (by omega) (by omega))
    · have e1 : (mo_filed s i n u v k N).2.1 1 i = N := by rw [E1, if_pos rfl]
      have e3 : (mo_filed s i n u v k N).2.1 3 i = s.2.1 3 i := E 3 _ (by decide) (by decide)
      unfold cr_st
      rw [e1, e3]
      refine ⟨⟨aw_up_s, ?_, ?_, ⟨hN8.1, hN8.2.1⟩, S.1.2.2.2.2⟩, ?_, ?_⟩
      · refine (aw_up_n (fun m => u3 m.symm)).trans ?_
        rw [show yCF (cr_yC y (cr_c1 (yCF y) i (va_up (yCF y i) k.toNat (some q))) (yCD y)) i = va_up (yCF y i) k.toNat (some q) from cr_c1_s]
        exact aw_up_s
      · exact (aw_up_n (aw_ne S.1.2.2.1 S.1.1 (fun m => by cases m))).trans ((aw_up_n (aw_ne S.1.2.2.1 S.1.2.1 (fun m => by injection m with m; injection m with _ m; injection m with m _; exact absurd m (by decide)))).trans ((aw_up_n (aw_nf S.1.2.2.1 hq)).trans S.1.2.2.1))
      · intro j j1 j2
        rw [show yCF (cr_yC y (cr_c1 (yCF y) i (va_up (yCF y i) k.toNat (some q))) (yCD y)) i = va_up (yCF y i) k.toNat (some q) from cr_c1_s]
        simp only [E2]
        by_cases e : j = k
        · subst e
          rw [if_neg (by omega), if_neg (by omega), if_pos rfl, if_neg (by omega), if_pos rfl, if_pos rfl]
          exact ⟨hn, q, va_up_self _ _ _, (aw_up_n (fun m => u2 m.symm)).trans ((aw_up_n (fun m => u1 m.symm)).trans aw_up_s)⟩
        · rw [if_neg (by omega), if_neg (by omega), if_neg (by omega), if_neg (by omega), if_neg (by omega), if_neg (by omega), if_neg (by omega), if_neg (by omega), if_neg (by omega)]
          obtain ⟨m1, c, m2, m3⟩ := S.2.1 j j1 (by omega)
          exact ⟨m1, c, (va_up_ne _ _ (by omega)).trans m2, (aw_up_n (aw_ne m3 S.1.1 (fun m => by cases m))).trans ((aw_up_n (aw_ne m3 S.1.2.1 (fun m => by cases m))).trans ((aw_up_n (aw_nf m3 hq)).trans m3))⟩
      · intro j j1 j2
        simp only [E 4 _ (by decide) (by decide)]
        obtain ⟨m1, c, m2, m3⟩ := S.2.2 j j1 j2
        exact ⟨m1, c, m2, (aw_up_n (aw_ne m3 S.1.1 (fun m => by cases m))).trans ((aw_up_n (aw_ne m3 S.1.2.1 (fun m => by cases m))).trans ((aw_up_n (aw_nf m3 hq)).trans m3))⟩
theorem cx_descriptor {i n u : Int} (htg : aw_tg G) (hkc : 3 ≤ kc) (hks : 15 ≤ ks) (h : CR G x y z J s) (h80 : s.2.1 8 0 = 0) (hi : iB i) (hn : iB n) (hu : iB u) (hbad : ¬ ((0 ≤ i ∧ i < 10) ∧ (0 ≤ n ∧ n < 10) ∧ (0 ≤ u ∧ u < 64)) → Q (.inr "java/lang/IllegalArgumentException") J) (hfull : (0 ≤ i ∧ i < 10) ∧ (0 ≤ n ∧ n < 10) ∧ (0 ≤ u ∧ u < 64) → ∀ k, mo_lst (fun j => s.2.1 4 (8 * i + 2 * j) = n) (s.2.1 3 i) k → k = 4 → ∀ J', cr_to G x z J s J' → Q (.inr "java/lang/IllegalStateException") J') (hok : (0 ≤ i ∧ i < 10) ∧ (0 ≤ n ∧ n < 10) ∧ (0 ≤ u ∧ u < 64) → ∀ k, mo_lst (fun j => s.2.1 4 (8 * i + 2 * j) = n) (s.2.1 3 i) k → k < 4 → ∀ J', cr_to G x z J (mo_descd s i n u k (if s.2.1 3 i < k + 1 then k + 1 else s.2.1 3 i)) J' → Q (.inl (some (.int (iI (if s.2.1 3 i < k + 1 then k + 1 else s.2.1 3 i))))) J') : aw_W G mT_descriptor (d + 3) Q 0 [some (.ref x), some (.int (iI i)), some (.int (iI n)), some (.int (iI u)), none] [] J kc ks := by
  obtain ⟨⟨cA, c1, c2⟩, c3⟩ := h.1.2.1
  refine sp_descriptor (a := yA y i) (fa := yFA y i) (da := yDA y i) (cf := yCF y i) (cd := yCD y i) (nn := s.2.1 1 i) (mm := s.2.1 3 i) (E := fun j => (s.2.1 4 (8 * i + 2 * j), s.2.1 4 (8 * i + 2 * j + 1))) hkc hks h.1.1 c1 hi hn hu (fun q => ⟨c2 i q.1 (by omega), (c3 i q.1 (by omega)).1, (c3 i q.1 (by omega)).2.2⟩) hbad (fun g k hk k8 q hq => hfull g k hk k8 _ ?_) (fun g k hk k8 q hq => hok g k hk k8 _ ?_)
  · have ag : ∀ K, cr_ag G K (z 0 5) J (aw_up J q (.inr (2, [.int (iI n), .int (iI u)]))) := fun K => cr_ag.rf.n hq
    obtain ⟨oN, h1, _⟩ := h.1.2.2.2.2.2.2.2.2
    exact ⟨y, z, ⟨h.1.ag htg (ag (fun _ _ => false)) ⟨⟨rfl, rfl, rfl, fun _ => rfl⟩, ⟨rfl, rfl, rfl⟩, ⟨rfl, rfl, rfl, rfl⟩, rfl, rfl, rfl, rfl, rfl, rfl, rfl⟩ (aw_up_n (aw_nf h1 hq)), h.2⟩, rfl, ag _⟩
  · have S := c3 i g.1.1 (by omega)
    have hk0 := hk.1
    have hk1 := hk.2.1
    have b8 := S.1.2.2.2.2
    generalize hN : (if s.2.1 3 i < k + 1 then k + 1 else s.2.1 3 i) = N
    have hN8 : 0 ≤ N ∧ N ≤ 4 ∧ s.2.1 3 i ≤ N ∧ k < N ∧ (N = s.2.1 3 i ∨ N = k + 1) := by rw [← hN]; split <;> omega
    have u1 : yDA y i ≠ q := aw_nf S.1.2.2.1 hq
    have u2 : yA y i ≠ q := aw_nf S.1.1 hq
    have u3 : yA y i ≠ yDA y i := aw_ne S.1.1 S.1.2.2.1 (fun m => by cases m)
    have E : ∀ (f : Nat) (p : Int), f ≠ 4 → f ≠ 3 → (mo_descd s i n u k N).2.1 f p = s.2.1 f p := by
      intro f p h1 h2
      simp only [mo_descd, mo_uf_2, mo_uz_2, h1, h2, false_and, if_false]
    have E2 : ∀ p, (mo_descd s i n u k N).2.1 4 p = if p = 8 * i + 2 * k + 1 then u else if p = 8 * i + 2 * k then n else s.2.1 4 p := by
      intro p
      simp only [mo_descd, mo_uf_2, mo_uz_2, Nat.reduceEqDiff, false_and, true_and, if_false]
    have E1 : ∀ p, (mo_descd s i n u k N).2.1 3 p = if p = i then N else s.2.1 3 p := by
      intro p
      simp only [mo_descd, mo_uf_2, mo_uz_2, Nat.reduceEqDiff, false_and, true_and, if_false]
    have := C0.sheet (w := z 0 5) (CF := yCF y) (CD := cr_c1 (yCD y) i (va_up (yCD y i) k.toNat (some q))) (i := i) (J1 := aw_up (aw_up (aw_up J q (.inr (2, [.int (iI n), .int (iI u)]))) (yDA y i) (.inl (G.2.2.1 8, 4, .inr (.inr (.inr (.inr (va_up (yCD y i) k.toNat (some q)))))))) (yA y i) (.inr (0, [.ref (yFA y i), .int (iI (s.2.1 1 i)), .ref (yDA y i), .int (iI N)]))) (s' := mo_descd s i n u k N) htg h.1 h80 ⟨g.1.1, by omega⟩ (fun b e h1 h2 _ h3 => (aw_up_n h2).trans ((aw_up_n h3).trans ((aw_up_n (aw_nf h1 hq)).trans h1))) (fun k' hk' => ⟨rfl, cr_c1_n hk'⟩) ?_ rfl rfl ?_ rfl ?_
    · refine ⟨_, z, ⟨this.1, ?_⟩, rfl, this.2.wd cr_kSh_C⟩
      exact h.2.cg ⟨rfl, rfl⟩ rfl rfl (funext (fun p => E 5 p (by decide) (by decide))) (funext (fun p => E 7 p (by decide) (by decide))) (funext (fun p => E 13 p (by decide) (by decide))) (funext (fun p => E 21 p (by decide) (by decide))) (funext (fun p => E 26 p (by decide) (by decide)))
    · intro k' hk'
      refine ⟨E 1 _ (by decide) (by decide), ?_, fun j _ _ => E 2 _ (by decide) (by decide), fun j j1 j2 => ?_⟩
      · rw [E1, if_neg hk']
      · rw [E2, if_neg (by omega), if_neg (by omega)]
    · exact fun f f1 f2 => funext (fun p => E f p (by omega) (by omega))
    · have e1 : (mo_descd s i n u k N).2.1 3 i = N := by rw [E1, if_pos rfl]
      have e3 : (mo_descd s i n u k N).2.1 1 i = s.2.1 1 i := E 1 _ (by decide) (by decide)
      unfold cr_st
      rw [e1, e3]
      refine ⟨⟨aw_up_s, ?_, ?_, S.1.2.2.2.1, ⟨hN8.1, hN8.2.1⟩⟩, ?_, ?_⟩
      · exact (aw_up_n (aw_ne S.1.2.1 S.1.1 (fun m => by cases m))).trans ((aw_up_n (aw_ne S.1.2.1 S.1.2.2.1 (fun m => by injection m with m; injection m with _ m; injection m with m _; exact absurd m (by decide)))).trans ((aw_up_n (aw_nf S.1.2.1 hq)).trans S.1.2.1))
      · refine (aw_up_n (fun m => u3 m.symm)).trans ?_
        rw [show yCD (cr_yC y (yCF y) (cr_c1 (yCD y) i (va_up (yCD y i) k.toNat (some q)))) i = va_up (yCD y i) k.toNat (some q) from cr_c1_s]
        exact aw_up_s
      · intro j j1 j2
        simp only [E 2 _ (by decide) (by decide)]
        obtain ⟨m1, c, m2, m3⟩ := S.2.1 j j1 j2
        exact ⟨m1, c, m2, (aw_up_n (aw_ne m3 S.1.1 (fun m => by cases m))).trans ((aw_up_n (aw_ne m3 S.1.2.2.1 (fun m => by cases m))).trans ((aw_up_n (aw_nf m3 hq)).trans m3))⟩
      · intro j j1 j2
        rw [show yCD (cr_yC y (yCF y) (cr_c1 (yCD y) i (va_up (yCD y i) k.toNat (some q)))) i = va_up (yCD y i) k.toNat (some q) from cr_c1_s]
        simp only [E2]
        by_cases e : j = k
        · subst e
          rw [if_neg (by omega), if_pos rfl, if_pos rfl]
          exact ⟨hn, q, va_up_self _ _ _, (aw_up_n (fun m => u2 m.symm)).trans ((aw_up_n (fun m => u1 m.symm)).trans aw_up_s)⟩
        · rw [if_neg (by omega), if_neg (by omega), if_neg (by omega), if_neg (by omega)]
          obtain ⟨m1, c, m2, m3⟩ := S.2.2 j j1 (by omega)
          exact ⟨m1, c, (va_up_ne _ _ (by omega)).trans m2, (aw_up_n (aw_ne m3 S.1.1 (fun m => by cases m))).trans ((aw_up_n (aw_ne m3 S.1.2.2.1 (fun m => by cases m))).trans ((aw_up_n (aw_nf m3 hq)).trans m3))⟩
end CR3
/-! the class's calls over the state: loader, applied, filter, add -/
section CR4
variable {G : aw_G} {J : aw_J} {d kc ks : Nat} {Q : aw_O → aw_J → Prop} {x : Nat} {y : st_Y} {z : cr_Z} {s s' : mo_S}
/-- the loader l is there -/
def cr_ll (s : mo_S) (l : Int) : Prop := (0 ≤ l ∧ l ≤ 40) ∧ ¬ s.2.1 5 l = 0
theorem CR.ld {l : Int} (h : C0 G x y z J s) (hl : cr_ll s l) : st_LD G J s.2 y l := h.2.2.2.1.2 l hl.1.1 hl.1.2 hl.2
theorem cx_loader {i e : Int} (hkc : 1 ≤ kc) (hks : 6 ≤ ks) (h : CR G x y z J s) (h12 : 1 ≤ s.1 12 ∧ s.1 12 ≤ 12) (h13 : ∀ i, 0 ≤ i → i < s.1 12 → 0 ≤ s.2.1 13 i ∧ s.2.1 13 i ≤ 2) (h21 : ∀ i, 0 ≤ i → i < s.1 12 → s.2.1 13 i = 1 → ∀ k, 0 ≤ k → k < 3 → cr_ll s (s.2.1 21 (3 * i + k))) (hi : iB i) (he : e = 0 ∨ e = 1) (hbad : ¬ (0 ≤ i ∧ i < s.1 12) → Q (.inr "java/lang/IllegalArgumentException") J) (hno : 0 ≤ i ∧ i < s.1 12 → ¬ s.2.1 13 i = 1 → Q (.inl (some (.int (iI (-1))))) J) (hx : 0 ≤ i ∧ i < s.1 12 → s.2.1 13 i = 1 → e = 1 → Q (.inl (some (.int (iI (s.2.1 21 (3 * i + 1)))))) J) (hl : 0 ≤ i ∧ i < s.1 12 → s.2.1 13 i = 1 → e = 0 → Q (.inl (some (.int (iI (s.2.1 21 (3 * i + 2)))))) J) : aw_W G mT_loader (d + 2) Q 0 [some (.ref x), some (.int (iI i)), some (.int (iI e)), none] [] J kc ks := by
  obtain ⟨⟨cS, c1, c2⟩, c3⟩ := h.1.2.2.2.2.1
  by_cases g : 0 ≤ i ∧ i < s.1 12
  · have b13 := h13 i g.1 g.2
    obtain ⟨⟨r1, r2, r3, s1, s2⟩, -⟩ := c3 i g.1 g.2
    refine sp_loader (a := z 1 i) (k := (s.2.1 13 i).toNat) (e2 := yLo y (s.2.1 21 (3 * i + 1))) (e3 := yLo y (s.2.1 21 (3 * i + 2))) (l2 := s.2.1 21 (3 * i + 1)) (l3 := s.2.1 21 (3 * i + 2)) (t2 := [.int (iI (s.2.1 6 (s.2.1 21 (3 * i + 1)))), va_rf (st_pa y s.2 (s.2.1 21 (3 * i + 1))), .ref (yCa y (s.2.1 21 (3 * i + 1))), va_rf (yRf y (s.2.1 21 (3 * i + 1))), .int (iI (yHo y (s.2.1 21 (3 * i + 1)))), .int (iI (yDc y (s.2.1 21 (3 * i + 1)))), .int (iI 0)]) (t3 := [.int (iI (s.2.1 6 (s.2.1 21 (3 * i + 2)))), va_rf (st_pa y s.2 (s.2.1 21 (3 * i + 2))), .ref (yCa y (s.2.1 21 (3 * i + 2))), va_rf (yRf y (s.2.1 21 (3 * i + 2))), .int (iI (yHo y (s.2.1 21 (3 * i + 2)))), .int (iI (yDc y (s.2.1 21 (3 * i + 2)))), .int (iI 0)]) hkc hks h.1.1 c1 (by omega) hi (fun _ => ⟨c2 i g.1 g.2, by omega, s1⟩) he (fun _ q => ?_) (fun q => absurd g q) (fun _ q => hno g (by omega)) (fun _ q1 q2 => hx g (by omega) q2) (fun _ q1 q2 => hl g (by omega) q2)
    have k1 : s.2.1 13 i = 1 := by omega
    have q2 := s2 k1
    exact ⟨q2.2.1, q2.2.2, (CR.ld h.1 (h21 i g.1 g.2 k1 1 (by decide) (by decide))).1, (CR.ld h.1 (h21 i g.1 g.2 k1 2 (by decide) (by decide))).1⟩
  · exact sp_loader (a := 0) (lp := 0) (ep := 0) (aa := 0) (k := 0) (e2 := 0) (e3 := 0) (rp := none) (rf := none) (r1 := none) (r2 := none) (r3 := none) (n := 0) (l2 := 0) (l3 := 0) (t2 := []) (t3 := []) hkc hks h.1.1 c1 (by omega) hi (fun q => absurd q g) he (fun q => absurd q g) hbad (fun q => absurd q g) (fun q => absurd q g) (fun q => absurd q g)
theorem cx_applied {i j : Int} (hkc : 1 ≤ kc) (hks : 6 ≤ ks) (h : CR G x y z J s) (h12 : 1 ≤ s.1 12 ∧ s.1 12 ≤ 12) (h13 : ∀ i, 0 ≤ i → i < s.1 12 → 0 ≤ s.2.1 13 i ∧ s.2.1 13 i ≤ 2) (h22 : ∀ i, 0 ≤ i → i < s.1 12 → ∀ k, 0 ≤ k → k < s.2.1 23 i → 0 ≤ s.2.1 22 (8 * i + k) ∧ s.2.1 22 (8 * i + k) < s.1 24) (hi : iB i) (hj : iB j) (hbad : ¬ (0 ≤ i ∧ i < s.1 12) → Q (.inr "java/lang/IllegalArgumentException") J) (hno : 0 ≤ i ∧ i < s.1 12 → ¬ (0 ≤ j ∧ j < s.2.1 23 i) → Q (.inl (some (.int (iI (-1))))) J) (hok : 0 ≤ i ∧ i < s.1 12 → 0 ≤ j ∧ j < s.2.1 23 i → Q (.inl (some (.int (iI (s.2.1 22 (8 * i + j)))))) J) : aw_W G mT_applied (d + 2) Q 0 [some (.ref x), some (.int (iI i)), some (.int (iI j)), none] [] J kc ks := by
  obtain ⟨⟨cS, c1, c2⟩, c3⟩ := h.1.2.2.2.2.1
  obtain ⟨cT, t1, t2, t3⟩ := h.1.2.2.2.2.2.2.1.1
  by_cases g : 0 ≤ i ∧ i < s.1 12
  · have b13 := h13 i g.1 g.2
    obtain ⟨⟨r1, r2, r3, s1, s2⟩, -, -, -, ap, ha⟩ := c3 i g.1 g.2
    exact sp_applied (a := z 1 i) (k := (s.2.1 13 i).toNat) (T := fun j => z 8 (s.2.1 22 (8 * i + j))) (N := fun j => s.2.1 22 (8 * i + j)) (ap := ap) hkc hks h.1.1 c1 (by omega) hi (fun _ => ⟨c2 i g.1 g.2, by omega, s1⟩) hj (fun _ => ⟨ha, fun j q1 q2 => ⟨_, (t3 _ (h22 i g.1 g.2 j q1 q2).1 (h22 i g.1 g.2 j q1 q2).2).2.2⟩⟩) (fun q => absurd g q) hno hok
  · exact sp_applied (a := 0) (lp := 0) (ep := 0) (aa := 0) (k := 0) (rp := none) (rf := none) (r1 := none) (r2 := none) (r3 := none) (n := 0) (ap := fun _ => none) (T := fun _ => 0) (N := fun _ => 0) hkc hks h.1.1 c1 (by omega) hi (fun q => absurd q g) hj (fun q => absurd q g) hbad (fun q => absurd q g) (fun q => absurd q g)
theorem cr_z7_n (z : cr_Z) (i : Int) (q : Nat) {k : Nat} (h : k ≠ 7) (j : Int) : cr_z7 z i q k j = z k j := if_neg h
theorem cx_filter {i m : Int} {u v : Int64} (htg : aw_tg G) (hkc : 4 ≤ kc) (hks : 24 ≤ ks) (h : CR G x y z J s) (h12 : 1 ≤ s.1 12 ∧ s.1 12 ≤ 12) (h13 : ∀ i, 0 ≤ i → i < s.1 12 → 0 ≤ s.2.1 13 i ∧ s.2.1 13 i ≤ 2) (hi : iB i) (hm : iB m) (hbad : ¬ ((0 ≤ i ∧ i < s.1 12) ∧ 0 ≤ m ∧ m < 256) → Q (.inr "java/lang/IllegalArgumentException") J) (hst : (0 ≤ i ∧ i < s.1 12) ∧ 0 ≤ m ∧ m < 256 → 0 < s.2.1 13 i → Q (.inr "java/lang/IllegalStateException") J) (hok : (0 ≤ i ∧ i < s.1 12) ∧ 0 ≤ m ∧ m < 256 → s.2.1 13 i ≤ 0 → ∀ J', cr_to G x z J (mo_ug (mo_ug (mo_uf (mo_uf s 17 i 1) 18 i m) 19 i u) 20 i v) J' → Q (.inl none) J') : aw_W G mT_filter (d + 3) Q 0 [some (.ref x), some (.int (iI i)), some (.int (iI m)), some (.long u), none, some (.long v), none, none] [] J kc ks := by
  obtain ⟨⟨cS, c1, c2⟩, c3⟩ := h.1.2.2.2.2.1
  by_cases g : 0 ≤ i ∧ i < s.1 12
  · have b13 := h13 i g.1 g.2
    have S := c3 i g.1 g.2
    obtain ⟨⟨r1, r2, r3, s1, s2⟩, p1, p2, ff, ap, ha⟩ := c3 i g.1 g.2
    refine sp_filter (a := z 1 i) (k := (s.2.1 13 i).toNat) hkc hks h.1.1 c1 (by omega) hi (fun _ => ⟨c2 i g.1 g.2, by omega, s1⟩) hm hbad (fun q1 q2 => hst q1 (by omega)) (fun q1 q2 q hq => hok q1 (by omega) _ ?_)
    have E : ∀ (f : Nat) (p : Int), f ≠ 17 → f ≠ 18 → (mo_ug (mo_ug (mo_uf (mo_uf s 17 i 1) 18 i m) 19 i u) 20 i v).2.1 f p = s.2.1 f p := by
      intro f p h1 h2
      simp only [mo_ug_2, mo_uf_2, h1, h2, false_and, if_false]
    have E7 : ∀ p, (mo_ug (mo_ug (mo_uf (mo_uf s 17 i 1) 18 i m) 19 i u) 20 i v).2.1 17 p = if p = i then 1 else s.2.1 17 p := by
      intro p
      simp only [mo_ug_2, mo_uf_2, Nat.reduceEqDiff, false_and, true_and, if_false]
    have E8 : ∀ p, (mo_ug (mo_ug (mo_uf (mo_uf s 17 i 1) 18 i m) 19 i u) 20 i v).2.1 18 p = if p = i then m else s.2.1 18 p := by
      intro p
      simp only [mo_ug_2, mo_uf_2, Nat.reduceEqDiff, false_and, true_and, if_false]
    have E9 : ∀ p, (mo_ug (mo_ug (mo_uf (mo_uf s 17 i 1) 18 i m) 19 i u) 20 i v).2.2 19 p = if p = i then u else s.2.2 19 p := by
      intro p
      simp only [mo_ug_22, mo_uf_22, Nat.reduceEqDiff, false_and, true_and, if_false]
    have E20 : ∀ p, (mo_ug (mo_ug (mo_uf (mo_uf s 17 i 1) 18 i m) 19 i u) 20 i v).2.2 20 p = if p = i then v else s.2.2 20 p := by
      intro p
      simp only [mo_ug_22, mo_uf_22, Nat.reduceEqDiff, false_and, true_and, if_false]
    have E0 : ∀ (f : Nat) (p : Int), f ≠ 19 → f ≠ 20 → (mo_ug (mo_ug (mo_uf (mo_uf s 17 i 1) 18 i m) 19 i u) 20 i v).2.2 f p = s.2.2 f p := by
      intro f p h1 h2
      simp only [mo_ug_22, mo_uf_22, h1, h2, false_and, if_false]
    have e1 : (mo_ug (mo_ug (mo_uf (mo_uf s 17 i 1) 18 i m) 19 i u) 20 i v).1 = s.1 := rfl
    generalize (mo_ug (mo_ug (mo_uf (mo_uf s 17 i 1) 18 i m) 19 i u) 20 i v) = s' at E E7 E8 E9 E20 E0 e1
    have hne : z 1 i ≠ q := aw_nf s1 hq
    have o : ∀ b e, J b = some e → b ≠ z 1 i → aw_up (aw_up J q (.inr (3, [.int (iI m), .long u, .long v]))) (z 1 i) (.inr (6, [va_rf (if i = 0 then none else some (z 1 (s.2.1 14 i))), .ref (z 2 i), .ref (z 4 i), .ref q, .ref (G.2.2.2.1 (s.2.1 13 i).toNat), va_rf r1, va_rf r2, va_rf r3, .ref (z 6 i), .int (iI (s.2.1 23 i))])) b = some e := fun b e h1 h2 => (aw_up_n h2).trans ((aw_up_n (aw_nf h1 hq)).trans h1)
    have := C0.scope (w := z 0 5) (s' := s') (q := q) (J1 := aw_up (aw_up J q (.inr (3, [.int (iI m), .long u, .long v]))) (z 1 i) (.inr (6, [va_rf (if i = 0 then none else some (z 1 (s.2.1 14 i))), .ref (z 2 i), .ref (z 4 i), .ref q, .ref (G.2.2.2.1 (s.2.1 13 i).toNat), va_rf r1, va_rf r2, va_rf r3, .ref (z 6 i), .int (iI (s.2.1 23 i))]))) htg h.1 g (fun b e h1 h2 _ _ _ _ _ => o b e h1 h2) (by rw [e1]) (by rw [e1]) (fun f hf => funext (fun p => E f p (by omega) (by omega))) ⟨funext (fun p => E0 10 p (by decide) (by decide)), funext (fun p => E0 11 p (by decide) (by decide))⟩ ?_ ?_
    · refine ⟨y, _, ⟨this.1, ?_⟩, rfl, this.2.wd cr_kSc_C⟩
      exact h.2.cg ⟨rfl, rfl⟩ (by rw [e1]) (by rw [e1]) (funext (fun p => E 5 p (by decide) (by decide))) (funext (fun p => E 7 p (by decide) (by decide))) (funext (fun p => E 13 p (by decide) (by decide))) (funext (fun p => E 21 p (by decide) (by decide))) (funext (fun p => E 26 p (by decide) (by decide)))
    · intro j hj
      refine ⟨⟨E 13 _ (by decide) (by decide), E 14 _ (by decide) (by decide), E 16 _ (by decide) (by decide), E 16 _ (by decide) (by decide), ?_, ?_, ?_, ?_, E 23 _ (by decide) (by decide)⟩, fun k _ _ => E 15 _ (by decide) (by decide), fun k _ _ => E 22 _ (by decide) (by decide), fun k _ _ => E 21 _ (by decide) (by decide)⟩
      · rw [E7, if_neg hj]
      · rw [E8, if_neg hj]
      · rw [E9, if_neg hj]
      · rw [E20, if_neg hj]
    · have f17 : ¬ s'.2.1 17 i = 0 := by rw [E7, if_pos rfl]; decide
      have z7 : cr_z7 z i q 7 i = q := by
        unfold cr_z7
        rw [if_pos rfl, if_pos rfl]
      unfold cr_S1 cr_k3
      rw [if_neg f17, z7, E7, if_pos rfl, E8, if_pos rfl, E9, if_pos rfl, E20, if_pos rfl, E 13 i (by decide) (by decide), E 14 i (by decide) (by decide), E 16 _ (by decide) (by decide), E 16 _ (by decide) (by decide), E 23 i (by decide) (by decide)]
      obtain ⟨P1, p11, p12⟩ := p1
      obtain ⟨P2, p21, p22⟩ := p2
      refine ⟨⟨r1, r2, r3, ?_, fun k1 => absurd k1 (by omega)⟩, ⟨P1, ⟨o _ _ p11.1 (aw_ne p11.1 s1 (fun m => by cases m)), o _ _ p11.2.1 (aw_ne p11.2.1 s1 (fun m => by cases m)), p11.2.2⟩, fun j j1 j2 => ?_⟩, ⟨P2, ⟨o _ _ p21.1 (aw_ne p21.1 s1 (fun m => by cases m)), o _ _ p21.2.1 (aw_ne p21.2.1 s1 (fun m => by cases m)), p21.2.2⟩, fun j j1 j2 => ?_⟩, fun _ => (aw_up_n (fun m => hne m.symm)).trans aw_up_s, ap, o _ _ ha.1 (aw_ne ha.1 s1 (fun m => by cases m)), ha.2.1, fun j j1 j2 => ?_⟩
      · exact aw_up_s
      · exact (p12 j j1 j2).trans (E 15 _ (by decide) (by decide)).symm
      · exact (p22 j j1 j2).trans (E 15 _ (by decide) (by decide)).symm
      · show ap j.toNat = some (cr_z7 z i q 8 (s'.2.1 22 (8 * i + j)))
        rw [E 22 _ (by decide) (by decide)]
        exact ha.2.2 j j1 j2
  · exact sp_filter (a := 0) (lp := 0) (ep := 0) (aa := 0) (k := 0) (rp := none) (rf := none) (r1 := none) (r2 := none) (r3 := none) (n := 0) hkc hks h.1.1 c1 (by omega) hi (fun q => absurd q g) hm hbad (fun q => absurd q.1 g) (fun q => absurd q.1 g)
end CR4
/-! the class's calls over the state: add -/
section CR5
variable {G : aw_G} {J : aw_J} {d kc ks : Nat} {Q : aw_O → aw_J → Prop} {x : Nat} {y : st_Y} {z : cr_Z} {s s' : mo_S}
theorem cr_z7_id (z : cr_Z) (i : Int) : cr_z7 z i (z 7 i) = z := by
  funext k j
  unfold cr_z7
  by_cases k7 : k = 7
  · rw [if_pos k7, k7]
    by_cases e : j = i
    · rw [if_pos e, e]
    · rw [if_neg e]
  · rw [if_neg k7]
/-- a is appended to the path 2 i + e -/
abbrev mo_added (s : mo_S) (i e a : Int) : mo_S := mo_uf (mo_uf s 15 (4 * (2 * i + e) + s.2.1 16 (2 * i + e)) a) 16 (2 * i + e) (s.2.1 16 (2 * i + e) + 1)
theorem cx_add_0 {i m : Int} {P : Int → Int} (htg : aw_tg G) (h : CR G x y z J s) (g : 0 ≤ i ∧ i < s.1 12) (hm : iB m) (h13 : s.2.1 13 i = 0) (h4 : s.2.1 16 (2 * i + 0) < 4) (hP : st_P G J (z 2 i) (z 3 i) (s.2.1 16 (2 * i)) P) (hP2 : ∀ j, 0 ≤ j → j < s.2.1 16 (2 * i) → P j = s.2.1 15 (8 * i + j)) : cr_to G x z J (mo_added s i 0 m) (aw_up (aw_up J (z 3 i) (.inl (G.2.2.1 0, 4, .inl (fun j : Nat => iI (if (j : Int) = s.2.1 16 (2 * i) then m else P (j : Int)))))) (z 2 i) (.inr (5, [.ref (z 3 i), .int (iI (s.2.1 16 (2 * i) + 1))]))) := by
  obtain ⟨⟨cS, c1, c2⟩, c3⟩ := h.1.2.2.2.2.1
  have h7 := h.1.2.2.2.2.2.1
  have I2 : z 2 i ≠ z 4 i ∧ z 3 i ≠ z 5 i := h7.2 i i g.1 g.2 g.1 g.2
  obtain ⟨⟨r1, r2, r3, s1, s2⟩, -, ⟨P2, p3, p4⟩, ff, ap, ha⟩ := c3 i g.1 g.2
  have hb4 := hP.2.2.1
  have E : ∀ (f : Nat) (p : Int), f ≠ 15 → f ≠ 16 → (mo_added s i 0 m).2.1 f p = s.2.1 f p := by
    intro f p h1 h2
    simp only [mo_added, mo_uf_2, h1, h2, false_and, if_false]
  have E5 : ∀ p, (mo_added s i 0 m).2.1 15 p = if p = 4 * (2 * i + 0) + s.2.1 16 (2 * i + 0) then m else s.2.1 15 p := by
    intro p
    simp only [mo_added, mo_uf_2, Nat.reduceEqDiff, false_and, true_and, if_false]
  have E6 : ∀ p, (mo_added s i 0 m).2.1 16 p = if p = 2 * i + 0 then s.2.1 16 (2 * i + 0) + 1 else s.2.1 16 p := by
    intro p
    simp only [mo_added, mo_uf_2, Nat.reduceEqDiff, false_and, true_and, if_false]
  have E0 : (mo_added s i 0 m).2.2 = s.2.2 := rfl
  have e1 : (mo_added s i 0 m).1 = s.1 := rfl
  generalize hs' : mo_added s i 0 m = s' at E E5 E6 E0 e1
  simp only [Int.add_zero] at E5 E6 h4
  have o : ∀ b e, J b = some e → b ≠ z 2 i → b ≠ z 3 i → (aw_up (aw_up J (z 3 i) (.inl (G.2.2.1 0, 4, .inl (fun j : Nat => iI (if (j : Int) = s.2.1 16 (2 * i) then m else P (j : Int)))))) (z 2 i) (.inr (5, [.ref (z 3 i), .int (iI (s.2.1 16 (2 * i) + 1))]))) b = some e := fun b e h1 h2 h3 => (aw_up_n h2).trans ((aw_up_n h3).trans h1)
  have := C0.scope (w := z 0 5) (s' := s') (i := i) (q := z 7 i) htg h.1 g (fun b e h1 h2 h3 h4 h5 h6 _ => o b e h1 h3 h4) (by rw [e1]) (by rw [e1]) (fun f hf => funext (fun p => E f p (by omega) (by omega))) ⟨by rw [E0], by rw [E0]⟩ ?_ ?_
  · refine ⟨y, _, ⟨this.1, ?_⟩, rfl, this.2.wd cr_kSc_C⟩
    exact h.2.cg ⟨rfl, rfl⟩ (by rw [e1]) (by rw [e1]) (funext (fun p => E 5 p (by decide) (by decide))) (funext (fun p => E 7 p (by decide) (by decide))) (funext (fun p => E 13 p (by decide) (by decide))) (funext (fun p => E 21 p (by decide) (by decide))) (funext (fun p => E 26 p (by decide) (by decide)))
  · intro j hj
    refine ⟨⟨E 13 _ (by decide) (by decide), E 14 _ (by decide) (by decide), ?_, ?_, E 17 _ (by decide) (by decide), E 18 _ (by decide) (by decide), by rw [E0], by rw [E0], E 23 _ (by decide) (by decide)⟩, fun k k1 k2 => ?_, fun k _ _ => E 22 _ (by decide) (by decide), fun k _ _ => E 21 _ (by decide) (by decide)⟩
    · rw [E6, if_neg (by omega)]
    · rw [E6, if_neg (by omega)]
    · rw [E5, if_neg (by omega)]
  · rw [cr_z7_id]
    have E6a : s'.2.1 16 (2 * i) = s.2.1 16 (2 * i) + 1 := by rw [E6, if_pos rfl]
    have E6b : s'.2.1 16 (2 * i + 1) = s.2.1 16 (2 * i + 1) := by rw [E6, if_neg (by omega)]
    unfold cr_S1 cr_k3
    rw [E 13 i (by decide) (by decide), E 14 i (by decide) (by decide), E 17 i (by decide) (by decide), E 18 i (by decide) (by decide), E 23 i (by decide) (by decide), E0, E6a, E6b]
    refine ⟨⟨r1, r2, r3, o _ _ s1 (aw_ne s1 hP.1 (fun m => by cases m)) (aw_ne s1 hP.2.1 (fun m => by cases m)), fun k1 => absurd k1 (by omega)⟩, ⟨fun j => if j = s.2.1 16 (2 * i) then m else P j, ⟨aw_up_s, (aw_up_n (aw_ne hP.2.1 hP.1 (fun m => by cases m))).trans aw_up_s, ⟨by omega, by omega⟩, ?_⟩, ?_⟩, ⟨P2, ⟨(aw_up_n (fun m => I2.1 m.symm)).trans ((aw_up_n (aw_ne p3.1 hP.2.1 (fun m => by cases m))).trans p3.1), (aw_up_n (aw_ne p3.2.1 hP.1 (fun m => by cases m))).trans ((aw_up_n (fun m => I2.2 m.symm)).trans p3.2.1), p3.2.2⟩, ?_⟩, fun q => o _ _ (ff q) (aw_ne (ff q) hP.1 (fun m => by cases m)) (aw_ne (ff q) hP.2.1 (fun m => by cases m)), ap, o _ _ ha.1 (aw_ne ha.1 hP.1 (fun m => by cases m)) (aw_ne ha.1 hP.2.1 (fun m => by injection m with m; injection m with _ m; injection m with m _; exact absurd m (by decide))), ha.2.1, fun j j1 j2 => ?_⟩
    · intro k
      show iB (if k = s.2.1 16 (2 * i) then m else P k)
      split
      · exact hm
      · exact hP.2.2.2 k
    · intro j j1 j2
      show (if j = s.2.1 16 (2 * i) then m else P j) = s'.2.1 15 (8 * i + j)
      rw [E5]
      by_cases ej : j = s.2.1 16 (2 * i)
      · rw [if_pos ej, if_pos (by omega)]
      · rw [if_neg ej, if_neg (by omega)]
        exact hP2 j j1 (by omega)
    · intro j j1 j2
      show P2 j = s'.2.1 15 (8 * i + 4 + j)
      have := p3.2.2.1
      rw [E5, if_neg (by omega)]
      exact p4 j j1 j2
    · show ap j.toNat = some (z 8 (s'.2.1 22 (8 * i + j)))
      rw [E 22 _ (by decide) (by decide)]
      exact ha.2.2 j j1 j2
theorem cx_add_1 {i m : Int} {P : Int → Int} (htg : aw_tg G) (h : CR G x y z J s) (g : 0 ≤ i ∧ i < s.1 12) (hm : iB m) (h13 : s.2.1 13 i = 0) (h4 : s.2.1 16 (2 * i + 1) < 4) (hP : st_P G J (z 4 i) (z 5 i) (s.2.1 16 (2 * i + 1)) P) (hP2 : ∀ j, 0 ≤ j → j < s.2.1 16 (2 * i + 1) → P j = s.2.1 15 (8 * i + 4 + j)) : cr_to G x z J (mo_added s i 1 m) (aw_up (aw_up J (z 5 i) (.inl (G.2.2.1 0, 4, .inl (fun j : Nat => iI (if (j : Int) = s.2.1 16 (2 * i + 1) then m else P (j : Int)))))) (z 4 i) (.inr (5, [.ref (z 5 i), .int (iI (s.2.1 16 (2 * i + 1) + 1))]))) := by
  obtain ⟨⟨cS, c1, c2⟩, c3⟩ := h.1.2.2.2.2.1
  have h7 := h.1.2.2.2.2.2.1
  have I2 : z 2 i ≠ z 4 i ∧ z 3 i ≠ z 5 i := h7.2 i i g.1 g.2 g.1 g.2
  obtain ⟨⟨r1, r2, r3, s1, s2⟩, ⟨P1, p1, p2⟩, -, ff, ap, ha⟩ := c3 i g.1 g.2
  have hb4 := hP.2.2.1
  have E : ∀ (f : Nat) (p : Int), f ≠ 15 → f ≠ 16 → (mo_added s i 1 m).2.1 f p = s.2.1 f p := by
    intro f p h1 h2
    simp only [mo_added, mo_uf_2, h1, h2, false_and, if_false]
  have E5 : ∀ p, (mo_added s i 1 m).2.1 15 p = if p = 4 * (2 * i + 1) + s.2.1 16 (2 * i + 1) then m else s.2.1 15 p := by
    intro p
    simp only [mo_added, mo_uf_2, Nat.reduceEqDiff, false_and, true_and, if_false]
  have E6 : ∀ p, (mo_added s i 1 m).2.1 16 p = if p = 2 * i + 1 then s.2.1 16 (2 * i + 1) + 1 else s.2.1 16 p := by
    intro p
    simp only [mo_added, mo_uf_2, Nat.reduceEqDiff, false_and, true_and, if_false]
  have E0 : (mo_added s i 1 m).2.2 = s.2.2 := rfl
  have e1 : (mo_added s i 1 m).1 = s.1 := rfl
  generalize hs' : mo_added s i 1 m = s' at E E5 E6 E0 e1
  have e0 := 0
  have o : ∀ b e, J b = some e → b ≠ z 4 i → b ≠ z 5 i → (aw_up (aw_up J (z 5 i) (.inl (G.2.2.1 0, 4, .inl (fun j : Nat => iI (if (j : Int) = s.2.1 16 (2 * i + 1) then m else P (j : Int)))))) (z 4 i) (.inr (5, [.ref (z 5 i), .int (iI (s.2.1 16 (2 * i + 1) + 1))]))) b = some e := fun b e h1 h2 h3 => (aw_up_n h2).trans ((aw_up_n h3).trans h1)
  have := C0.scope (w := z 0 5) (s' := s') (i := i) (q := z 7 i) htg h.1 g (fun b e h1 h2 h3 h4 h5 h6 _ => o b e h1 h5 h6) (by rw [e1]) (by rw [e1]) (fun f hf => funext (fun p => E f p (by omega) (by omega))) ⟨by rw [E0], by rw [E0]⟩ ?_ ?_
  · refine ⟨y, _, ⟨this.1, ?_⟩, rfl, this.2.wd cr_kSc_C⟩
    exact h.2.cg ⟨rfl, rfl⟩ (by rw [e1]) (by rw [e1]) (funext (fun p => E 5 p (by decide) (by decide))) (funext (fun p => E 7 p (by decide) (by decide))) (funext (fun p => E 13 p (by decide) (by decide))) (funext (fun p => E 21 p (by decide) (by decide))) (funext (fun p => E 26 p (by decide) (by decide)))
  · intro j hj
    refine ⟨⟨E 13 _ (by decide) (by decide), E 14 _ (by decide) (by decide), ?_, ?_, E 17 _ (by decide) (by decide), E 18 _ (by decide) (by decide), by rw [E0], by rw [E0], E 23 _ (by decide) (by decide)⟩, fun k k1 k2 => ?_, fun k _ _ => E 22 _ (by decide) (by decide), fun k _ _ => E 21 _ (by decide) (by decide)⟩
    · rw [E6, if_neg (by omega)]
    · rw [E6, if_neg (by omega)]
    · rw [E5, if_neg (by omega)]
  · rw [cr_z7_id]
    have E6a : s'.2.1 16 (2 * i) = s.2.1 16 (2 * i) := by rw [E6, if_neg (by omega)]
    have E6b : s'.2.1 16 (2 * i + 1) = s.2.1 16 (2 * i + 1) + 1 := by rw [E6, if_pos rfl]
    unfold cr_S1 cr_k3
    rw [E 13 i (by decide) (by decide), E 14 i (by decide) (by decide), E 17 i (by decide) (by decide), E 18 i (by decide) (by decide), E 23 i (by decide) (by decide), E0, E6a, E6b]
    refine ⟨⟨r1, r2, r3, o _ _ s1 (aw_ne s1 hP.1 (fun m => by cases m)) (aw_ne s1 hP.2.1 (fun m => by cases m)), fun k1 => absurd k1 (by omega)⟩, ⟨P1, ⟨(aw_up_n I2.1).trans ((aw_up_n (aw_ne p1.1 hP.2.1 (fun m => by cases m))).trans p1.1), (aw_up_n (aw_ne p1.2.1 hP.1 (fun m => by cases m))).trans ((aw_up_n I2.2).trans p1.2.1), p1.2.2⟩, ?_⟩, ⟨fun j => if j = s.2.1 16 (2 * i + 1) then m else P j, ⟨aw_up_s, (aw_up_n (aw_ne hP.2.1 hP.1 (fun m => by cases m))).trans aw_up_s, ⟨by omega, by omega⟩, ?_⟩, ?_⟩, fun q => o _ _ (ff q) (aw_ne (ff q) hP.1 (fun m => by cases m)) (aw_ne (ff q) hP.2.1 (fun m => by cases m)), ap, o _ _ ha.1 (aw_ne ha.1 hP.1 (fun m => by cases m)) (aw_ne ha.1 hP.2.1 (fun m => by injection m with m; injection m with _ m; injection m with m _; exact absurd m (by decide))), ha.2.1, fun j j1 j2 => ?_⟩
    · intro j j1 j2
      show P1 j = s'.2.1 15 (8 * i + j)
      have := p1.2.2.1
      rw [E5, if_neg (by omega)]
      exact p2 j j1 j2
    · intro k
      show iB (if k = s.2.1 16 (2 * i + 1) then m else P k)
      split
      · exact hm
      · exact hP.2.2.2 k
    · intro j j1 j2
      show (if j = s.2.1 16 (2 * i + 1) then m else P j) = s'.2.1 15 (8 * i + 4 + j)
      rw [E5]
      by_cases ej : j = s.2.1 16 (2 * i + 1)
      · rw [if_pos ej, if_pos (by omega)]
      · rw [if_neg ej, if_neg (by omega)]
        exact hP2 j j1 (by omega)
    · show ap j.toNat = some (z 8 (s'.2.1 22 (8 * i + j)))
      rw [E 22 _ (by decide) (by decide)]
      exact ha.2.2 j j1 j2
theorem cx_add {i m e : Int} (htg : aw_tg G) (hkc : 3 ≤ kc) (hks : 18 ≤ ks) (h : CR G x y z J s) (h12 : 1 ≤ s.1 12 ∧ s.1 12 ≤ 12) (h13 : ∀ i, 0 ≤ i → i < s.1 12 → 0 ≤ s.2.1 13 i ∧ s.2.1 13 i ≤ 2) (hi : iB i) (hm : iB m) (he : e = 0 ∨ e = 1) (hbad : ¬ ((0 ≤ i ∧ i < s.1 12) ∧ 0 ≤ m ∧ m < 10) → Q (.inr "java/lang/IllegalArgumentException") J) (hst : ((0 ≤ i ∧ i < s.1 12) ∧ 0 ≤ m ∧ m < 10) → 0 < s.2.1 13 i → Q (.inr "java/lang/IllegalStateException") J) (h0 : ((0 ≤ i ∧ i < s.1 12) ∧ 0 ≤ m ∧ m < 10) → s.2.1 13 i ≤ 0 → ¬ (s.2.1 16 (2 * i + e) < 4 ∧ ∀ j, 0 ≤ j → j < s.2.1 16 (2 * i + e) → s.2.1 15 (4 * (2 * i + e) + j) ≠ m) → Q (.inl (some (.int (iI 0)))) J) (h1 : ((0 ≤ i ∧ i < s.1 12) ∧ 0 ≤ m ∧ m < 10) → s.2.1 13 i ≤ 0 → (s.2.1 16 (2 * i + e) < 4 ∧ ∀ j, 0 ≤ j → j < s.2.1 16 (2 * i + e) → s.2.1 15 (4 * (2 * i + e) + j) ≠ m) → ∀ J', cr_to G x z J (mo_added s i e m) J' → Q (.inl (some (.int (iI 1)))) J') : aw_W G mT_add (d + 3) Q 0 [some (.ref x), some (.int (iI i)), some (.int (iI m)), some (.int (iI e)), none] [] J kc ks := by
  obtain ⟨⟨cS, c1, c2⟩, c3⟩ := h.1.2.2.2.2.1
  by_cases g : 0 ≤ i ∧ i < s.1 12
  · have b13 := h13 i g.1 g.2
    obtain ⟨⟨r1, r2, r3, s1, s2⟩, ⟨P1, p1, p2⟩, ⟨P2, p3, p4⟩, ff, ap, ha⟩ := c3 i g.1 g.2
    refine sp_add (a := z 1 i) (k := (s.2.1 13 i).toNat) (Pl := P1) (Pe := P2) hkc hks h.1.1 c1 (by omega) hi (fun _ => ⟨c2 i g.1 g.2, by omega, s1⟩) hm he (fun _ => ⟨p1, p3⟩) hbad (fun q1 q2 => hst q1 (by omega)) (fun q1 q2 q3 q4 => h0 q1 (by omega) (fun q5 => q4 ?_)) (fun q1 q2 q3 q4 => h0 q1 (by omega) (fun q5 => q4 ?_)) (fun q1 q2 q3 q4 q5 => h1 q1 (by omega) ?_ _ ?_) (fun q1 q2 q3 q4 q5 => h1 q1 (by omega) ?_ _ ?_)
    · subst q3
      refine ⟨q5.1, fun ⟨k, k1, k2, k3⟩ => q5.2 k k1 k2 ?_⟩
      rw [show 4 * (2 * i + 1) + k = 8 * i + 4 + k by omega]
      exact (p4 k k1 k2).symm.trans k3
    · subst q3
      rw [Int.add_zero] at q5
      refine ⟨q5.1, fun ⟨k, k1, k2, k3⟩ => q5.2 k k1 k2 ?_⟩
      rw [show 4 * (2 * i) + k = 8 * i + k by omega]
      exact (p2 k k1 k2).symm.trans k3
    · subst q3
      refine ⟨q4, fun k k1 k2 k3 => q5 ⟨k, k1, k2, ?_⟩⟩
      rw [show 4 * (2 * i + 1) + k = 8 * i + 4 + k by omega] at k3
      exact (p4 k k1 k2).trans k3
    · subst q3
      exact cx_add_1 htg h g hm (by omega) q4 p3 p4
    · subst q3
      rw [Int.add_zero]
      refine ⟨q4, fun k k1 k2 k3 => q5 ⟨k, k1, k2, ?_⟩⟩
      rw [show 4 * (2 * i) + k = 8 * i + k by omega] at k3
      exact (p2 k k1 k2).trans k3
    · subst q3
      exact cx_add_0 htg h g hm (by omega) (by rw [Int.add_zero]; exact q4) p1 p2
  · exact sp_add (a := 0) (lp := 0) (ep := 0) (aa := 0) (k := 0) (rp := none) (rf := none) (r1 := none) (r2 := none) (r3 := none) (n := 0) (la := 0) (ea := 0) (nl := 0) (ne := 0) (Pl := fun _ => 0) (Pe := fun _ => 0) hkc hks h.1.1 c1 (by omega) hi (fun q => absurd q g) hm he (fun q => absurd q g) hbad (fun q => absurd q.1 g) (fun q => absurd q.1 g) (fun q => absurd q.1 g) (fun q => absurd q.1 g) (fun q => absurd q.1 g)
end CR5
