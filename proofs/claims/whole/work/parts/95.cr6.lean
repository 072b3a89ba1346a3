/-! the loader wanted for a filter; states with a loader more -/
section CR14
variable {G : aw_G} {J : aw_J} {d kc ks : Nat} {Q : aw_O → aw_J → Prop} {x : Nat} {y : st_Y} {z : cr_Z} {s s' : mo_S}
theorem cx_wantF {c p : Int} (htg : aw_tg G) (hkc : 2 ≤ kc) (hks : 8 ≤ ks) (h : CR G x y z J s) (hI : Iv0 s) (hgb : ∀ k i, iB (s.2.1 k i)) (hc : 0 ≤ c ∧ c < s.1 12) (hp : cr_ll s p) (hf : 1 ≤ mo_fr (s.2.1 5) 40) (hq : ∀ l s' y' J', mo_fR s c p l s' → CR G x y' z J' s' → cr_ag G cr_kGo (z 0 5) J J' → (∀ j, ¬ s.2.1 5 j = 0 → yLo y' j = yLo y j) → Q (.inl (some (.ref (yLo y' l)))) J') : aw_W G mT_wantedFiltering (d + 1 + 1 + 1 + 1) Q 0 [some (.ref x), some (va_rf (if s.2.1 17 c = 0 then none else some (z 7 c))), some (.ref (yLo y p)), none, none] [] J kc ks := by
  obtain ⟨⟨cL, l1, l2⟩, l3⟩ := h.1.2.2.2.1
  have S := h.1.2.2.2.2.1.2 c hc.1 hc.2
  have hff := S.2.2.2.1
  have SL := hI.2.2.1
  have fo : (if s.2.1 17 c = 0 then none else some (z 7 c)) = none ↔ s.2.1 17 c = 0 := by
    by_cases e : s.2.1 17 c = 0
    · rw [if_pos e]; exact ⟨fun _ => e, fun _ => rfl⟩
    · rw [if_neg e]; exact ⟨fun m => (by cases m), fun m => absurd m e⟩
  have fs : ∀ fa, (if s.2.1 17 c = 0 then none else some (z 7 c)) = some fa → ¬ s.2.1 17 c = 0 ∧ z 7 c = fa := by
    intro fa m
    by_cases e : s.2.1 17 c = 0
    · rw [if_pos e] at m; cases m
    · rw [if_neg e] at m; exact ⟨e, Option.some.inj m⟩
  have dmi : ∀ i, 1 ≤ i → i ≤ 40 → ((¬ cL i.toNat = none ∧ st_pa y s.2 i = some (yLo y p) ∧ (s.2.1 6 i = 2 ∧ s.2.1 18 c = s.2.1 9 i ∧ s.2.2 19 c = s.2.2 10 i ∧ s.2.2 20 c = s.2.2 11 i)) ↔ mo_fm s c p i) := by
    intro i i1 i2
    have cc := l2 i (by omega) i2
    constructor
    · rintro ⟨m1, m2, m3, m4, m5, m6⟩
      have i5 : ¬ s.2.1 5 i = 0 := fun e => m1 (cc.1 e)
      have e7 : st_pa y s.2 i = some (yLo y (s.2.1 7 i)) := if_neg (by omega)
      rw [e7] at m2
      have up := hI.up ⟨i1, i2⟩ i5
      have e7 : s.2.1 7 i = p := (CR.ld h.1 up).inj (CR.ld h.1 hp) ⟨by have := up.1; omega, by have := up.1; omega⟩ ⟨by have := hp.1; omega, by have := hp.1; omega⟩ (Option.some.inj m2)
      exact ⟨⟨i5, m3, e7, m4.symm⟩, m5.symm, m6.symm⟩
    · rintro ⟨⟨i5, e6, e7, e9⟩, e10, e11⟩
      refine ⟨by rw [cc.2 i5]; exact fun e => (by cases e), ?_, e6, e9.symm, e10.symm, e11.symm⟩
      rw [show st_pa y s.2 i = some (yLo y (s.2.1 7 i)) from if_neg (by omega), e7]
  refine sp_wantF (cL := cL) (La := yLo y) (RP := st_pa y s.2) (RF := yRf y) (M := fun i => s.2.1 6 i = 2 ∧ s.2.1 18 c = s.2.1 9 i ∧ s.2.2 19 c = s.2.2 10 i ∧ s.2.2 20 c = s.2.2 11 i) (PN := fun v J' => ∃ l s' y', mo_fR s c p l s' ∧ CR G x y' z J' s' ∧ cr_ag G cr_kGo (z 0 5) J J' ∧ (∀ j, ¬ s.2.1 5 j = 0 → yLo y' j = yLo y j) ∧ v = yLo y' l) hkc hks h.1.1 l1 (fun e => ?_) (fun i i1 i2 => ?_) (fun fa e => ?_) (fun e i i1 i2 i3 i4 => ?_) (fun fa e hno q hqn Q' hQ' => ?_) (fun v J' hN => ?_)
  · exact hq p s y J (Or.inl ⟨fo.mp e, rfl, rfl⟩) h cr_ag.rf (fun _ _ => rfl)
  · by_cases i5 : s.2.1 5 i = 0
    · exact Or.inl ((l2 i (by omega) i2).1 i5)
    · have L := l3 i (by omega) i2 i5
      refine Or.inr ⟨(l2 i (by omega) i2).2 i5, ⟨_, _, _, _, _, _, L.1⟩, fun fa e _ Q' h1 h0 => ?_⟩
      have f := fs fa e
      have fc := hff f.1
      rw [f.2] at fc
      by_cases k2 : s.2.1 6 i = 2
      · obtain ⟨fb, r1, r2⟩ := L.2.2.1 k2
        rw [r1]
        exact sp_Fsame (hgb _ _) (hgb _ _) fc r2 (fun m => h1 ⟨k2, m⟩) (fun m => h0 (fun m2 => m m2.2))
      · rw [L.2.2.2 k2]
        exact sp_FsameN (h0 (fun m2 => k2 m2.1))
  · have f := fs fa e
    exact ⟨_, f.2 ▸ hff f.1⟩
  · exact hq i s y J (Or.inr (Or.inl ⟨fun m => e (fo.mpr m), ⟨i1, i2⟩, fun j j1 j2 m => i3 j j1 j2 ((dmi j j1 (by omega)).mpr m), (dmi i i1 i2).mp i4, rfl⟩)) h cr_ag.rf (fun _ _ => rfl)
  · have f := fs fa e
    have hk : ∀ b v, J b = some v → aw_up J q (.inl (G.2.2.1 3, 0, .inr (.inr (.inr (.inr (fun _ => none)))))) b = some v := fun b v m => (aw_up_n (aw_nf m hqn)).trans m
    have jq : aw_up J q (.inl (G.2.2.1 3, 0, .inr (.inr (.inr (.inr (fun _ => none)))))) q = some (.inl (G.2.2.1 3, 0, .inr (.inr (.inr (.inr (fun _ => none)))))) := aw_up_s
    have hCR := cr_fsh h htg hk
    generalize aw_up J q (.inl (G.2.2.1 3, 0, .inr (.inr (.inr (.inr (fun _ => none)))))) = H at hk jq hCR ⊢
    have Lp := CR.ld hCR.1 hp
    refine sp_newLoader (rf := some fa) (f := s.2.1 5) (by decide) (by decide) hCR.1.1 (hk _ _ l1) (fun l q1 q2 => ?_) (mo_fr_ex _ 40 hf) Lp.1 (fun l q' q1 q2 q3 q4 q5 => ?_)
    · have c := l2 l (by omega) q2
      exact ⟨fun e => Classical.byContradiction (fun m => by rw [c.2 m] at e; cases e), c.1⟩
    · have hcond : (1 ≤ l ∧ l ≤ 40) ∧ s.2.1 5 l = 0 ∧ ∀ j, 1 ≤ j → j < l → ¬ s.2.1 5 j = 0 := ⟨⟨q1, q2⟩, q4, q3⟩
      have mm := mo_newf_m (s := s) (c := c) (p := p) hcond
      have m8 := mm.2.2.2.1
      have e9 : (mo_newf s c p l).2.1 9 l = s.2.1 18 c ∧ (mo_newf s c p l).2.2 10 l = s.2.2 19 c ∧ (mo_newf s c p l).2.2 11 l = s.2.2 20 c := by
        refine ⟨?_, ?_, ?_⟩
        · simp only [mo_newf, mo_ug_2, mo_uf_2, Nat.reduceEqDiff, false_and, true_and, if_false, if_true]
        · simp only [mo_newf, mo_ug_22, mo_uf_22, Nat.reduceEqDiff, false_and, true_and, if_false, if_true]
        · simp only [mo_newf, mo_ug_22, mo_uf_22, Nat.reduceEqDiff, false_and, true_and, if_false, if_true]
      have key := CR.more (cL := cL) (q := q') (ca := q) (rf := some fa) (B := fun _ => 0) (fB := fun _ => 0) (dB := fun _ => 0) (CF := fun _ _ => none) (CD := fun _ _ => none) htg hCR hI mm hp (by decide) (hk _ _ l1) l2 q5 ?_ (fun k i _ i1 i2 => absurd i2 (by omega)) (fun i j i1 i2 => absurd i2 (by omega))
      · exact hQ' q' _ ⟨l, mo_newf s c p l, _, Or.inr (Or.inr ⟨f.1, fun j j1 j2 m => hno j j1 j2 ((dmi j j1 j2).mpr m), hcond, rfl⟩), key.1, (cr_ag.f hk).tr key.2, fun j hj => cr_s1_n _ _ (fun e => hj (by rw [e]; exact q4)), (cr_s1_y _ _ _).symm⟩
      · generalize mo_newf s c p l = s' at m8 e9
        refine ⟨⟨fun _ => none, ?_, fun i i1 i2 => ?_⟩, fun i i1 i2 => ?_, fun _ => ⟨fa, cr_s1_y _ _ _, ?_⟩, fun m => absurd m8.1 m⟩
        · show H (cr_s1 (yCa y) l q l) = _
          rw [cr_s1_y, m8.2.2]
          exact jq
        · rw [m8.2.2] at i2
          exact absurd i2 (by have : (0 : Int).toNat = 0 := rfl; omega)
        · rw [m8.2.2] at i2
          exact absurd i2 (by have : (0 : Int).toNat = 0 := rfl; omega)
        · rw [e9.1, e9.2.1, e9.2.2, ← f.2]
          exact hk _ _ (hff f.1)
  · obtain ⟨l, s', y', n1, n2, n3, n4, n5⟩ := hN
    rw [n5]
    exact hq l s' y' J' n1 n2 n3 n4
/-- a loader more: the state stays as states are -/
theorem Iv0.more {l k p n : Int} (h : Iv0 s) (hm : mo_more s s' l k p n) (hp : cr_ll s p) (hSL : mo_SL s') (hn : ∀ i, 0 ≤ i → i < n → ∀ j, 0 ≤ j → j < s'.2.1 3 (10 + 4 * l + i) → s'.2.1 4 (8 * (10 + 4 * l + i) + 2 * j + 1) ≤ 63) : Iv0 s' := by
  obtain ⟨i1, i2, i3, i4, i5, i6, i7, i8, i9, i10, i11, i12⟩ := h
  have hl := hm.1.1
  have hl5 := hm.1.2.1
  have e5 := hm.2.1
  have sm := hm.2.2.1
  have m6 := hm.2.2.2.1
  have shA := hm.2.2.2.2.1
  have F := fun k hk => (hm.2.2.2.2.2.1 k hk).1
  have e1 := hm.2.2.2.2.2.2
  have ll : ∀ j, cr_ll s j → cr_ll s' j := fun j hj => ⟨hj.1, by rw [e5]; split <;> first | decide | exact hj.2⟩
  have ne : ∀ j, ¬ s.2.1 5 j = 0 → j ≠ l := fun j hj e => hj (by rw [e]; exact hl5)
  have ch : ∀ n j, cr_ch s.2 n j → cr_ch s'.2 n j := by
    intro n
    induction n with
    | zero => exact fun j h => h
    | succ n ih =>
      intro j h
      rcases h with h | ⟨h1, h2, h3⟩
      · exact Or.inl h
      · exact Or.inr ⟨h1, (ll j ⟨⟨by omega, h1.2⟩, h2⟩).2, by rw [(sm j (ne j h2)).2.1]; exact ih _ h3⟩
  refine ⟨by rw [e1]; exact i1, by rw [e1]; exact i2, hSL, ?_, ?_, ?_, ?_, ?_, ?_, ?_, ?_, ?_⟩
  · intro a b c c' q1 q2 q3
    unfold mo_kn at q2 q3
    rw [e1, F 25 (by decide), F 26 (by decide)] at q2 q3
    exact i4 a b c c' q1 q2 q3
  · rw [e1, F 28 (by decide)]; exact i5
  · have s0 := sm 0 (by omega)
    rw [s0.1, s0.2.1, s0.2.2.1]
    exact ⟨(ll 0 ⟨by decide, i6.1⟩).2, i6.2⟩
  · intro j hj
    by_cases e : j = l
    · obtain ⟨n, hn⟩ := i7 p hp
      refine ⟨n + 1, Or.inr ⟨by omega, hj.2, ?_⟩⟩
      rw [e, m6.2.1]
      exact ch n p hn
    · have : ¬ s.2.1 5 j = 0 := by
        have := hj.2
        rw [e5, if_neg e] at this
        exact this
      obtain ⟨n, hn⟩ := i7 j ⟨hj.1, this⟩
      exact ⟨n, ch n j hn⟩
  · intro i q1 q2
    rw [e1] at q2
    have a := i8 i q1 q2
    unfold iv_s at a ⊢
    rw [F 13 (by decide), F 14 (by decide), F 15 (by decide), F 16 (by decide), F 21 (by decide), F 22 (by decide), F 23 (by decide), F 28 (by decide), e1]
    exact ⟨a.1, a.2.1, a.2.2.1, a.2.2.2.1, fun m k k1 k2 => ll _ (a.2.2.2.2 m k k1 k2)⟩
  · intro c q1 q2
    rw [e1] at q2
    have a := i9 c q1 q2
    unfold iv_t at a ⊢
    rw [F 26 (by decide)]
    exact ⟨a.1, fun m => ll _ (a.2.1 m), a.2.2⟩
  · intro k hk j j1 j2
    rcases hk with hk | ⟨l', i, k1, k2, k3, k4⟩
    · have q := shA k hk.1 hk.2
      rw [q.2.1] at j2
      have := i3.1 k hk.1 hk.2
      have b := this.1.2.1
      have e := q.2.2.2 (2 * j + 1) (by omega) (by omega)
      rw [← Int.add_assoc] at e
      rw [e]
      exact i10 k (Or.inl hk) j j1 j2
    · by_cases e : l' = l
      · rw [k4, e] at j2 ⊢
        rw [e, m6.2.2] at k3
        exact hn i k3.1 k3.2 j j1 j2
      · rw [e5, if_neg e] at k2
        have q0 := sm l' e
        rw [q0.2.2.1] at k3
        have ld := i3.2 l' k1.1 k1.2 k2
        have q := q0.2.2.2.2.2.2 i k3.1 (by have := ld.2.2.1; omega)
        rw [← k4] at q
        rw [q.2.1] at j2
        have b := (ld.2.2.2.2.1 i k3.1 k3.2).2.1
        have b : 0 ≤ s.2.1 3 k ∧ s.2.1 3 k ≤ 4 := by rw [k4]; exact b
        have e := q.2.2.2 (2 * j + 1) (by omega) (by omega)
        rw [← Int.add_assoc] at e
        rw [e]
        exact i10 k (Or.inr ⟨l', i, k1, k2, k3, k4⟩) j j1 j2
  · rw [e1, F 13 (by decide), F 16 (by decide), F 17 (by decide), F 23 (by decide)]; exact i11
  · rw [F 13 (by decide)]; exact i12
/-- all numbers are ints -/
def cr_gb (s : mo_S) : Prop := ∀ k i, iB (s.2.1 k i)
theorem cr_gb.uf (h : cr_gb s) {k : Nat} {i v : Int} (hv : iB v) : cr_gb (mo_uf s k i v) := by
  intro k' i'
  rw [mo_uf_2]
  split
  · exact hv
  · exact h k' i'
theorem cr_gb.cp (h : cr_gb s) {k : Nat} {t f i : Int} : cr_gb (mo_cp s k t f i) := by
  intro k' q
  show iB (if k' = k ∧ t ≤ q ∧ q < t + i then s.2.1 k (q - t + f) else s.2.1 k' q)
  split
  · exact h _ _
  · exact h _ _
end CR14
/-! lock -/
section CR15
variable {G : aw_G} {J : aw_J} {d kc ks : Nat} {Q : aw_O → aw_J → Prop} {x : Nat} {y : st_Y} {z : cr_Z} {s s' : mo_S}
theorem cr_gb.copied (h : cr_gb s) {f t : Int} : cr_gb (mo_copied s f t) := ((((h.uf (h _ _)).uf (h _ _)).cp).cp)
theorem cr_gb.cpy (h : cr_gb s) {f l : Int} : ∀ n, cr_gb (mo_cpy s f l n) := by
  intro n
  induction n with
  | zero => exact h
  | succ n ih => exact ih.copied
theorem cr_gb.newd (h : cr_gb s) {f n p l : Int} (hn : iB n) (hp : iB p) : cr_gb (mo_newd s f n p l) := ((((((h.uf (by decide)).uf (by decide)).uf hp).uf (by decide)).uf hn).cpy _)
theorem cr_gb.newf (h : cr_gb s) {c p l : Int} (hp : iB p) : cr_gb (mo_newf s c p l) := by
  intro k i
  have := (((((h.uf (k := 5) (i := l) (v := 1) (by decide)).uf (k := 6) (i := l) (v := 2) (by decide)).uf (k := 7) (i := l) hp).uf (k := 8) (i := l) (v := 0) (by decide)).uf (k := 9) (i := l) (h 18 c)) k i
  exact this
/-- what a step of a lock keeps -/
def cr_kp (s s' : mo_S) (l : Int) : Prop := Iv0 s' ∧ cr_gb s' ∧ cr_ll s' l ∧ (∀ j, ¬ s.2.1 5 j = 0 → ¬ s'.2.1 5 j = 0) ∧ (∀ k, 12 ≤ k → s'.2.1 k = s.2.1 k ∧ s'.2.2 k = s.2.2 k) ∧ s'.1 = s.1 ∧ mo_fr (s.2.1 5) 40 ≤ mo_fr (s'.2.1 5) 40 + 1 ∧ (∀ j, mo_hold s j ≤ mo_hold s' j) ∧ ∀ j, s.2.1 5 j = 0 → ¬ s'.2.1 5 j = 0 → j = l
theorem mo_dR_kp {f n p l : Int} (h : Iv0 s) (hg : cr_gb s) (hp : cr_ll s p) (hn : 0 ≤ n ∧ n ≤ 4) (hpv : ∀ i, 0 ≤ i → i < n → 0 ≤ s.2.1 15 (f + i) ∧ s.2.1 15 (f + i) ≤ 9) (hd : mo_dR s f n p l s') : cr_kp s s' l := by
  have hr : s' = s → cr_ll s l → cr_kp s s' l := by
    intro e hl
    subst e
    exact ⟨h, hg, hl, fun _ m => m, fun _ _ => ⟨rfl, rfl⟩, rfl, by omega, fun _ => Int.le_refl _, fun j a b => absurd a b⟩
  rcases hd with ⟨e1, e2, e3⟩ | ⟨e1, e2, e3, e4, e5⟩ | ⟨e1, e2, e3, e4⟩
  · exact hr e3 (by rw [e2]; exact hp)
  · exact hr e5 ⟨⟨by omega, e2.2⟩, e4.1.1⟩
  · have mm := mo_newd_m (s := s) (f := f) (p := p) e3 hn
    rw [← e4] at mm
    have SL : mo_SL s' := by rw [e4]; exact mo_newd_SL e3 hn hpv h.2.2.1
    refine ⟨h.more mm hp SL (fun i i1 i2 j j1 j2 => ?_), ?_, ⟨⟨by omega, e3.1.2⟩, by rw [mm.2.1, if_pos rfl]; decide⟩, fun j m => by rw [mm.2.1]; split <;> first | decide | exact m, mm.2.2.2.2.2.1, mm.2.2.2.2.2.2, by have := mo_more_fr mm; omega, fun j => by rw [mo_hold_more mm]; split <;> omega, fun j a b => ?_⟩
    · have a := hpv i i1 i2
      have she := mo_newd_s (s := s) (p := p) e3.1.1 hn.1 hpv i1 i2
      rw [← e4] at she
      have b := (h.2.2.1.1 _ a.1 a.2).1.2.1
      rw [she.2.1] at j2
      have e := she.2.2.2 (2 * j + 1) (by omega) (by omega)
      rw [← Int.add_assoc, ← Int.add_assoc] at e
      rw [e]
      exact h.2.2.2.2.2.2.2.2.2.1 _ (Or.inl a) j j1 j2
    · rw [e4]
      exact hg.newd (by omega) ⟨by have := hp.1; omega, by have := hp.1; omega⟩
    · rw [mm.2.1] at b
      by_cases e : j = l
      · exact e
      · rw [if_neg e] at b
        exact absurd a b
theorem mo_fR_kp {c p l : Int} (h : Iv0 s) (hg : cr_gb s) (hp : cr_ll s p) (hd : mo_fR s c p l s') : cr_kp s s' l := by
  have hr : s' = s → cr_ll s l → cr_kp s s' l := by
    intro e hl
    subst e
    exact ⟨h, hg, hl, fun _ m => m, fun _ _ => ⟨rfl, rfl⟩, rfl, by omega, fun _ => Int.le_refl _, fun j a b => absurd a b⟩
  rcases hd with ⟨e1, e2, e3⟩ | ⟨e1, e2, e3, e4, e5⟩ | ⟨e1, e2, e3, e4⟩
  · exact hr e3 (by rw [e2]; exact hp)
  · exact hr e5 ⟨⟨by omega, e2.2⟩, e4.1.1⟩
  · have mm := mo_newf_m (s := s) (c := c) (p := p) e3
    rw [← e4] at mm
    have SL : mo_SL s' := by rw [e4]; exact mo_newf_SL e3 h.2.2.1
    refine ⟨h.more mm hp SL (fun i i1 i2 => absurd i2 (by omega)), ?_, ⟨⟨by omega, e3.1.2⟩, by rw [mm.2.1, if_pos rfl]; decide⟩, fun j m => by rw [mm.2.1]; split <;> first | decide | exact m, mm.2.2.2.2.2.1, mm.2.2.2.2.2.2, by have := mo_more_fr mm; omega, fun j => by rw [mo_hold_more mm]; split <;> omega, fun j a b => ?_⟩
    · rw [e4]
      exact hg.newf ⟨by have := hp.1; omega, by have := hp.1; omega⟩
    · rw [mm.2.1] at b
      by_cases e : j = l
      · exact e
      · rw [if_neg e] at b
        exact absurd a b
theorem mo_dR_u {f n p l l2 : Int} {s2 : mo_S} (h : mo_dR s f n p l s') (h' : mo_dR s f n p l2 s2) : l = l2 ∧ s' = s2 := by
  have lst : ∀ (M : Int → Prop) (a b : Int), (∀ j, 1 ≤ j → j < a → ¬ M j) → M a → (∀ j, 1 ≤ j → j < b → ¬ M j) → M b → 1 ≤ a → 1 ≤ b → a = b := by
    intro M a b a1 a2 b1 b2 a3 b3
    by_cases e1 : a < b
    · exact absurd a2 (b1 a a3 e1)
    · by_cases e2 : b < a
      · exact absurd b2 (a1 b b3 e2)
      · omega
  rcases h with ⟨e1, e2, e3⟩ | ⟨e1, e2, e3, e4, e5⟩ | ⟨e1, e2, e3, e4⟩ <;> rcases h' with ⟨f1, f2, f3⟩ | ⟨f1, f2, f3, f4, f5⟩ | ⟨f1, f2, f3, f4⟩
  · exact ⟨e2.trans f2.symm, e3.trans f3.symm⟩
  · exact absurd e1 f1
  · exact absurd e1 f1
  · exact absurd f1 e1
  · exact ⟨lst _ l l2 e3 e4 f3 f4 e2.1 f2.1, e5.trans f5.symm⟩
  · exact absurd e4 (f2 l e2.1 e2.2)
  · exact absurd f1 e1
  · exact absurd f4 (e2 l2 f2.1 f2.2)
  · have := lst (fun j => s.2.1 5 j = 0) l l2 e3.2.2 e3.2.1 f3.2.2 f3.2.1 e3.1.1 f3.1.1
    subst this
    exact ⟨rfl, e4.trans f4.symm⟩
theorem mo_fR_u {c p l l2 : Int} {s2 : mo_S} (h : mo_fR s c p l s') (h' : mo_fR s c p l2 s2) : l = l2 ∧ s' = s2 := by
  have lst : ∀ (M : Int → Prop) (a b : Int), (∀ j, 1 ≤ j → j < a → ¬ M j) → M a → (∀ j, 1 ≤ j → j < b → ¬ M j) → M b → 1 ≤ a → 1 ≤ b → a = b := by
    intro M a b a1 a2 b1 b2 a3 b3
    by_cases e1 : a < b
    · exact absurd a2 (b1 a a3 e1)
    · by_cases e2 : b < a
      · exact absurd b2 (a1 b b3 e2)
      · omega
  rcases h with ⟨e1, e2, e3⟩ | ⟨e1, e2, e3, e4, e5⟩ | ⟨e1, e2, e3, e4⟩ <;> rcases h' with ⟨f1, f2, f3⟩ | ⟨f1, f2, f3, f4, f5⟩ | ⟨f1, f2, f3, f4⟩
  · exact ⟨e2.trans f2.symm, e3.trans f3.symm⟩
  · exact absurd e1 f1
  · exact absurd e1 f1
  · exact absurd f1 e1
  · exact ⟨lst _ l l2 e3 e4 f3 f4 e2.1 f2.1, e5.trans f5.symm⟩
  · exact absurd e4 (f2 l e2.1 e2.2)
  · exact absurd f1 e1
  · exact absurd f4 (e2 l2 f2.1 f2.2)
  · have := lst (fun j => s.2.1 5 j = 0) l l2 e3.2.2 e3.2.1 f3.2.2 f3.2.1 e3.1.1 f3.1.1
    subst this
    exact ⟨rfl, e4.trans f4.symm⟩
/-- the cell of the scope i, with state k and loaders r1 r2 r3 -/
abbrev cr_sc (G : aw_G) (z : cr_Z) (t : mo_T) (i : Int) (k : Nat) (r1 r2 r3 : Option Nat) : va_E := .inr (6, [va_rf (if i = 0 then none else some (z 1 (t.1 14 i))), .ref (z 2 i), .ref (z 4 i), va_rf (if t.1 17 i = 0 then none else some (z 7 i)), .ref (G.2.2.2.1 k), va_rf r1, va_rf r2, va_rf r3, .ref (z 6 i), .int (iI (t.1 23 i))])
/-- a scope's loaders and state are set -/
theorem C0.three {i v a1 a2 a3 : Int} {k : Nat} {r1 r2 r3 : Option Nat} (htg : aw_tg G) (h : C0 G x y z J s) (hi : 0 ≤ i ∧ i < s.1 12) (hv : v.toNat = k) (hk : v = 1 → (1 ≤ i → r1 = some (yLo y a1)) ∧ r2 = some (yLo y a2) ∧ r3 = some (yLo y a3)) : C0 G x y z (aw_up J (z 1 i) (cr_sc G z s.2 i k r1 r2 r3)) (mo_uf (mo_uf (mo_uf (mo_uf s 21 (3 * i) a1) 21 (3 * i + 1) a2) 21 (3 * i + 2) a3) 13 i v) ∧ cr_ag G cr_kSc (z 0 5) J (aw_up J (z 1 i) (cr_sc G z s.2 i k r1 r2 r3)) := by
  obtain ⟨⟨q1, q2, q3, s1, s2⟩, ⟨P1, p1, p2⟩, ⟨P2, p3, p4⟩, ff, ap, ha⟩ := h.2.2.2.2.1.2 i hi.1 hi.2
  have o : ∀ b e, J b = some e → b ≠ z 1 i → aw_up J (z 1 i) (cr_sc G z s.2 i k r1 r2 r3) b = some e := fun b e h1 h2 => (aw_up_n h2).trans h1
  have jc : aw_up J (z 1 i) (cr_sc G z s.2 i k r1 r2 r3) (z 1 i) = some (cr_sc G z s.2 i k r1 r2 r3) := aw_up_s
  generalize aw_up J (z 1 i) (cr_sc G z s.2 i k r1 r2 r3) = J1 at o jc
  have E : ∀ f, f ≠ 21 → f ≠ 13 → (mo_uf (mo_uf (mo_uf (mo_uf s 21 (3 * i) a1) 21 (3 * i + 1) a2) 21 (3 * i + 2) a3) 13 i v).2.1 f = s.2.1 f := by
    intro f h1 h2
    rw [mo_uf_o _ h2, mo_uf_o _ h1, mo_uf_o _ h1, mo_uf_o _ h1]
  have E13 : ∀ p, (mo_uf (mo_uf (mo_uf (mo_uf s 21 (3 * i) a1) 21 (3 * i + 1) a2) 21 (3 * i + 2) a3) 13 i v).2.1 13 p = if p = i then v else s.2.1 13 p := by
    intro p
    simp only [mo_uf_2, Nat.reduceEqDiff, false_and, true_and, if_false]
  have E21 : ∀ p, (mo_uf (mo_uf (mo_uf (mo_uf s 21 (3 * i) a1) 21 (3 * i + 1) a2) 21 (3 * i + 2) a3) 13 i v).2.1 21 p = if p = 3 * i + 2 then a3 else if p = 3 * i + 1 then a2 else if p = 3 * i then a1 else s.2.1 21 p := by
    intro p
    simp only [mo_uf_2, Nat.reduceEqDiff, false_and, true_and, if_false]
  have e1 : (mo_uf (mo_uf (mo_uf (mo_uf s 21 (3 * i) a1) 21 (3 * i + 1) a2) 21 (3 * i + 2) a3) 13 i v).1 = s.1 := rfl
  have e2 : (mo_uf (mo_uf (mo_uf (mo_uf s 21 (3 * i) a1) 21 (3 * i + 1) a2) 21 (3 * i + 2) a3) 13 i v).2.2 = s.2.2 := rfl
  generalize mo_uf (mo_uf (mo_uf (mo_uf s 21 (3 * i) a1) 21 (3 * i + 1) a2) 21 (3 * i + 2) a3) 13 i v = s' at E E13 E21 e1 e2
  have := C0.scope (w := z 0 5) (s' := s') (J1 := J1) (i := i) (q := z 7 i) htg h hi (fun b e h1 h2 _ _ _ _ _ => o b e h1 h2) (by rw [e1]) (by rw [e1]) (fun f hf => E f (by omega) (by omega)) ⟨by rw [e2], by rw [e2]⟩ ?_ ?_
  · rw [cr_z7_id] at this
    exact this
  · intro j hj
    refine ⟨⟨by rw [E13, if_neg hj], by rw [E 14 (by decide) (by decide)], by rw [E 16 (by decide) (by decide)], by rw [E 16 (by decide) (by decide)], by rw [E 17 (by decide) (by decide)], by rw [E 18 (by decide) (by decide)], by rw [e2], by rw [e2], by rw [E 23 (by decide) (by decide)]⟩, fun k _ _ => by rw [E 15 (by decide) (by decide)], fun k _ _ => by rw [E 22 (by decide) (by decide)], fun k k1 k2 => ?_⟩
    rw [E21, if_neg (by omega), if_neg (by omega), if_neg (by omega)]
  · rw [cr_z7_id]
    unfold cr_S1 cr_k3
    rw [E13, if_pos rfl, E 14 (by decide) (by decide), E 15 (by decide) (by decide), E 16 (by decide) (by decide), E 17 (by decide) (by decide), E 18 (by decide) (by decide), E 22 (by decide) (by decide), E 23 (by decide) (by decide), e2, hv]
    refine ⟨⟨r1, r2, r3, jc, fun m => ?_⟩, ⟨P1, ⟨o _ _ p1.1 (aw_ne p1.1 s1 (fun m => by cases m)), o _ _ p1.2.1 (aw_ne p1.2.1 s1 (fun m => by cases m)), p1.2.2⟩, p2⟩, ⟨P2, ⟨o _ _ p3.1 (aw_ne p3.1 s1 (fun m => by cases m)), o _ _ p3.2.1 (aw_ne p3.2.1 s1 (fun m => by cases m)), p3.2.2⟩, p4⟩, fun q => o _ _ (ff q) (aw_ne (ff q) s1 (fun m => by cases m)), ap, o _ _ ha.1 (aw_ne ha.1 s1 (fun m => by cases m)), ha.2⟩
    rw [E21, E21, E21]
    have b1 : (if 3 * i = 3 * i + 2 then a3 else if 3 * i = 3 * i + 1 then a2 else if 3 * i = 3 * i then a1 else s.2.1 21 (3 * i)) = a1 := by
      rw [if_neg (by omega), if_neg (by omega), if_pos rfl]
    have b2 : (if 3 * i + 1 = 3 * i + 2 then a3 else if 3 * i + 1 = 3 * i + 1 then a2 else if 3 * i + 1 = 3 * i then a1 else s.2.1 21 (3 * i + 1)) = a2 := by
      rw [if_neg (by omega), if_pos rfl]
    have b3 : (if 3 * i + 2 = 3 * i + 2 then a3 else if 3 * i + 2 = 3 * i + 1 then a2 else if 3 * i + 2 = 3 * i then a1 else s.2.1 21 (3 * i + 2)) = a3 := if_pos rfl
    rw [b1, b2, b3]
    exact hk m
/-- a scope that is not locked: its loaders do not matter -/
theorem CR.r3 {i : Int} {r1 r2 r3 : Option Nat} (htg : aw_tg G) (h : CR G x y z J s) (hi : 0 ≤ i ∧ i < s.1 12) (h13 : s.2.1 13 i = 0) : CR G x y z (aw_up J (z 1 i) (cr_sc G z s.2 i 0 r1 r2 r3)) s ∧ cr_ag G cr_kSc (z 0 5) J (aw_up J (z 1 i) (cr_sc G z s.2 i 0 r1 r2 r3)) := by
  have k := C0.three (i := i) (v := 0) (a1 := s.2.1 21 (3 * i)) (a2 := s.2.1 21 (3 * i + 1)) (a3 := s.2.1 21 (3 * i + 2)) (k := 0) (r1 := r1) (r2 := r2) (r3 := r3) htg h.1 hi rfl (fun m => absurd m (by decide))
  refine ⟨⟨k.1.cg ⟨rfl, rfl, fun f _ => ?_, rfl⟩, h.2⟩, k.2⟩
  funext p
  by_cases f13 : f = 13
  · subst f13
    by_cases e : p = i
    · subst e
      simp only [mo_uf_2, Nat.reduceEqDiff, false_and, true_and, if_false, if_true]
      exact h13
    · simp only [mo_uf_2, Nat.reduceEqDiff, false_and, true_and, if_false, e]
  · by_cases f21 : f = 21
    · subst f21
      simp only [mo_uf_2, Nat.reduceEqDiff, false_and, true_and, if_false]
      split
      · rename_i e; rw [e]
      · split
        · rename_i e; rw [e]
        · split
          · rename_i e; rw [e]
          · rfl
    · rw [mo_uf_o _ f13, mo_uf_o _ f21, mo_uf_o _ f21, mo_uf_o _ f21]
end CR15
/-! lock: the whole call -/
section CR16
variable {G : aw_G} {J : aw_J} {d kc ks : Nat} {Q : aw_O → aw_J → Prop} {x : Nat} {y : st_Y} {z : cr_Z} {s s' : mo_S}
theorem mo_hs_cg2 (h13 : s'.2.1 13 = s.2.1 13) (h21 : ∀ i, 1 ≤ i → s.2.1 13 i = 1 → ∀ k, 0 ≤ k → k < 3 → s'.2.1 21 (3 * i + k) = s.2.1 21 (3 * i + k)) (l : Int) (n : Nat) : mo_hs s' l n = mo_hs s l n := by
  induction n with
  | zero => rfl
  | succ n ih =>
    rw [mo_hs, mo_hs, ih, h13]
    by_cases e : s.2.1 13 ((n : Int) + 1) = 1
    · have q := h21 ((n : Int) + 1) (by omega) e
      have q0 := q 0 (by decide) (by decide)
      rw [Int.add_zero] at q0
      rw [if_pos e, if_pos e, mo_h3_3, mo_h3_3, q0, q 1 (by decide) (by decide), q 2 (by decide) (by decide)]
    · rw [if_neg e, if_neg e]
/-- the state after a lock -/
abbrev mo_lkd (s : mo_S) (c a1 a2 a3 : Int) : mo_S := mo_uf (mo_uf (mo_uf (mo_uf s 21 (3 * c) a1) 21 (3 * c + 1) a2) 21 (3 * c + 2) a3) 13 c 1
theorem mo_lkd_o (s : mo_S) (c a1 a2 a3 : Int) {f : Nat} (h1 : f ≠ 21) (h2 : f ≠ 13) : (mo_lkd s c a1 a2 a3).2.1 f = s.2.1 f := by
  rw [mo_uf_o _ h2, mo_uf_o _ h1, mo_uf_o _ h1, mo_uf_o _ h1]
theorem mo_lkd_13 (s : mo_S) (c a1 a2 a3 p : Int) : (mo_lkd s c a1 a2 a3).2.1 13 p = if p = c then 1 else s.2.1 13 p := by
  simp only [mo_uf_2, Nat.reduceEqDiff, false_and, true_and, if_false]
theorem mo_lkd_21 (s : mo_S) (c a1 a2 a3 p : Int) : (mo_lkd s c a1 a2 a3).2.1 21 p = if p = 3 * c + 2 then a3 else if p = 3 * c + 1 then a2 else if p = 3 * c then a1 else s.2.1 21 p := by
  simp only [mo_uf_2, Nat.reduceEqDiff, false_and, true_and, if_false]
theorem mo_hold_lkd {c a1 a2 a3 : Int} (hc : 1 ≤ c ∧ c < s.1 12) (h13 : ¬ s.2.1 13 c = 1) (l : Int) : mo_hold (mo_lkd s c a1 a2 a3) l = mo_hold s l + (cr_q a1 l + cr_q a2 l + cr_q a3 l) := by
  have u1 := mo_hold_unl (s := mo_lkd s c a1 a2 a3) (c := c) (l := l) hc
  have u2 := mo_hold_unl (s := s) (c := c) (l := l) hc
  rw [if_neg h13, Int.add_zero] at u2
  have e13 : (mo_lkd s c a1 a2 a3).2.1 13 c = 1 := by rw [mo_lkd_13, if_pos rfl]
  rw [if_pos e13, mo_h3_3] at u1
  have b1 : (mo_lkd s c a1 a2 a3).2.1 21 (3 * c) = a1 := by rw [mo_lkd_21, if_neg (by omega), if_neg (by omega), if_pos rfl]
  have b2 : (mo_lkd s c a1 a2 a3).2.1 21 (3 * c + 1) = a2 := by rw [mo_lkd_21, if_neg (by omega), if_pos rfl]
  have b3 : (mo_lkd s c a1 a2 a3).2.1 21 (3 * c + 2) = a3 := by rw [mo_lkd_21, if_pos rfl]
  rw [b1, b2, b3] at u1
  rw [u1, u2]
  have F13 : ∀ (t : mo_S) p, (mo_uf t 13 c 2).2.1 13 p = if p = c then 2 else t.2.1 13 p := by
    intro t p
    simp only [mo_uf_2, true_and]
  have e : mo_hold (mo_uf (mo_lkd s c a1 a2 a3) 13 c 2) l = mo_hold (mo_uf s 13 c 2) l := by
    unfold mo_hold
    rw [mo_hk_cg (s := mo_uf s 13 c 2) (s' := mo_uf (mo_lkd s c a1 a2 a3) 13 c 2) ((mo_uf_o (mo_lkd s c a1 a2 a3) (by decide) _ _).trans ((mo_lkd_o s c a1 a2 a3 (by decide) (by decide)).trans (mo_uf_o s (by decide) _ _).symm)) ((mo_uf_o (mo_lkd s c a1 a2 a3) (by decide) _ _).trans ((mo_lkd_o s c a1 a2 a3 (by decide) (by decide)).trans (mo_uf_o s (by decide) _ _).symm)), mo_hs_cg2 (s := mo_uf s 13 c 2) (s' := mo_uf (mo_lkd s c a1 a2 a3) 13 c 2) (by
      funext p
      rw [F13, F13, mo_lkd_13]
      split
      · rfl
      · rfl) (fun i i1 i2 k k1 k2 => by
      rw [F13] at i2
      have ic : i ≠ c := fun m => by rw [if_pos m] at i2; omega
      rw [mo_uf_o (mo_lkd s c a1 a2 a3) (by decide), mo_uf_o s (by decide), mo_lkd_21, if_neg (by omega), if_neg (by omega), if_neg (by omega)])]
    rfl
  rw [e]
theorem cx_lock {c : Int} (htg : aw_tg G) (hkc : 33 ≤ kc) (hks : 176 ≤ ks) (h : CR G x y z J s) (hI : Iv0 s) (hgb : cr_gb s) (hi : iB c) (hbad : ¬ (0 ≤ c ∧ c < s.1 12) → Q (.inr "java/lang/IllegalArgumentException") J) (hst : 0 ≤ c ∧ c < s.1 12 → ¬ (s.2.1 13 c ≤ 0 ∧ s.2.1 13 (s.2.1 14 c) = 1) → Q (.inr "java/lang/IllegalStateException") J) (hfew : 0 ≤ c ∧ c < s.1 12 → s.2.1 13 c ≤ 0 ∧ s.2.1 13 (s.2.1 14 c) = 1 → mo_fr (s.2.1 5) 40 < 3 → Q (.inr "java/lang/UnsupportedOperationException") J) (hq : 0 ≤ c ∧ c < s.1 12 → s.2.1 13 c ≤ 0 ∧ s.2.1 13 (s.2.1 14 c) = 1 → 3 ≤ mo_fr (s.2.1 5) 40 → ∀ e s1 u s2 l s3, mo_dR s (8 * c + 4 * 1) (s.2.1 16 (2 * c + 1)) (s.2.1 21 (3 * s.2.1 14 c + 1)) e s1 → mo_fR s1 c e u s2 → mo_dR s2 (8 * c + 4 * 0) (s.2.1 16 (2 * c + 0)) e l s3 → ∀ J', cr_to G x z J (mo_lkd s3 c e u l) J' → Q (.inl (some (.int (iI l)))) J') : aw_W G mT_lock (d + 1 + 1 + 1 + 1 + 1 + 1) Q 0 [some (.ref x), some (.int (iI c)), none, none] [] J kc ks := by
  obtain ⟨⟨cS, c1, c2⟩, c3⟩ := h.1.2.2.2.2.1
  obtain ⟨⟨cL, l1, l2⟩, l3⟩ := h.1.2.2.2.1
  have h12 := hI.1
  have hcl : ∀ l, 1 ≤ l → l ≤ 40 → (cL l.toNat = none ↔ s.2.1 5 l = 0) := by
    intro l q1 q2
    have cc := l2 l (by omega) q2
    exact ⟨fun e => Classical.byContradiction (fun m => by rw [cc.2 m] at e; cases e), cc.1⟩
  by_cases g : 0 ≤ c ∧ c < s.1 12
  · have iv := hI.2.2.2.2.2.2.2.1 c g.1 g.2
    obtain ⟨⟨r1, r2, r3, s1, s2⟩, -, -, ff, -⟩ := c3 c g.1 g.2
    by_cases k0 : s.2.1 13 c = 0
    · have cp : 1 ≤ c := by
        have := hI.2.2.2.2.2.2.2.2.2.2.2
        by_cases e : c = 0
        · rw [e] at k0; omega
        · omega
      have ab := iv.2.1 cp
      have gb : 0 ≤ s.2.1 14 c ∧ s.2.1 14 c < s.1 12 := by omega
      have ivb := hI.2.2.2.2.2.2.2.1 _ gb.1 gb.2
      obtain ⟨⟨b1, b2, b3, sb1, sb2⟩, -⟩ := c3 _ gb.1 gb.2
      rw [k0] at s1
      have s1 : J (z 1 c) = some (cr_sc G z s.2 c 0 r1 r2 r3) := s1
      have rp : (if c = 0 then none else some (z 1 (s.2.1 14 c))) = some (z 1 (s.2.1 14 c)) := if_neg (by omega)
      have pw := iv.2.2.1
      have p1 := pw 1 (Or.inr rfl)
      have p0 := pw 0 (Or.inl rfl)
      refine sp_lock_1 (f := s.2.1 5) (a := z 1 c) (k := 0) (b := z 1 (s.2.1 14 c)) (kb := (s.2.1 13 (s.2.1 14 c)).toNat) (pe := yLo y (s.2.1 21 (3 * s.2.1 14 c + 1))) (PD := fun e J1 => ∃ le t1 y1, mo_dR s (8 * c + 4 * 1) (s.2.1 16 (2 * c + 1)) (s.2.1 21 (3 * s.2.1 14 c + 1)) le t1 ∧ CR G x y1 z J1 t1 ∧ cr_ag G cr_kC (z 0 5) J J1 ∧ J1 (z 1 c) = J (z 1 c) ∧ e = yLo y1 le) (PF := fun e u J2 => ∃ le t1 lu t2 y2, mo_dR s (8 * c + 4 * 1) (s.2.1 16 (2 * c + 1)) (s.2.1 21 (3 * s.2.1 14 c + 1)) le t1 ∧ mo_fR t1 c le lu t2 ∧ CR G x y2 z J2 t2 ∧ cr_ag G cr_kC (z 0 5) J J2 ∧ J2 (z 1 c) = some (cr_sc G z s.2 c 0 (some e) r2 r3) ∧ e = yLo y2 le ∧ u = yLo y2 lu) (PE := fun e u l J3 => ∃ le t1 lu t2 lo t3 y3, mo_dR s (8 * c + 4 * 1) (s.2.1 16 (2 * c + 1)) (s.2.1 21 (3 * s.2.1 14 c + 1)) le t1 ∧ mo_fR t1 c le lu t2 ∧ mo_dR t2 (8 * c + 4 * 0) (s.2.1 16 (2 * c + 0)) le lo t3 ∧ CR G x y3 z J3 t3 ∧ cr_ag G cr_kC (z 0 5) J J3 ∧ J3 (z 1 c) = some (cr_sc G z s.2 c 0 (some e) (some u) r3) ∧ e = yLo y3 le ∧ u = yLo y3 lu ∧ l = yLo y3 lo) hkc hks h.1.1 c1 (by omega) hi (fun _ => ⟨c2 c g.1 g.2, by decide, s1⟩) (fun _ _ => ⟨rp, by have := ivb.1; omega, sb1⟩) l1 hcl (fun q => absurd g q) (fun _ q => hst g (fun m => q ⟨rfl, by have := m.2; omega⟩)) (fun _ _ q1 q2 => hfew g ⟨by omega, by have := ivb.1; omega⟩ q2) (fun gl => ?_) (fun e J1 gl hP => ?_) (fun e u J2 gl hP => ?_) (fun e u l J3 gl hP => ?_)
      · have kb : s.2.1 13 (s.2.1 14 c) = 1 := by have := gl.2.2.1; omega
        have pl := ivb.2.2.2.2 kb 1 (by decide) (by decide)
        refine ⟨(sb2 kb).2.1, fun Q' hQ' => ?_⟩
        have := cx_wantD (Q := Q') (d := d + 1) (kc := 14) (ks := 76) (c := c) (w := 1) htg (by decide) (by decide) h hI hgb g (Or.inr rfl) pl (by have := gl.2.2.2; omega) (fun le t1 y1 J1 q1 q2 q3 q4 => hQ' _ J1 ⟨le, t1, y1, q1, q2, q3.wd cr_kGo_C, (q3.o s1 rfl).trans s1.symm, rfl⟩)
        exact this
      · obtain ⟨le, t1, y1, q1, q2, q3, q4, q5⟩ := hP
        have kb : s.2.1 13 (s.2.1 14 c) = 1 := by have := gl.2.2.1; omega
        have pl := ivb.2.2.2.2 kb 1 (by decide) (by decide)
        have K := mo_dR_kp hI hgb pl p1.1 p1.2 q1
        have kF := fun k hk => (K.2.2.2.2.1 k hk).1
        have g1 : 0 ≤ c ∧ c < t1.1 12 := by rw [K.2.2.2.2.2.1]; exact g
        have cell : cr_sc G z s.2 c 0 (some e) r2 r3 = cr_sc G z t1.2 c 0 (some e) r2 r3 := by
          show cr_sc G z s.2 c 0 (some e) r2 r3 = _
          unfold cr_sc
          rw [kF 14 (by decide), kF 17 (by decide), kF 23 (by decide)]
        have R := CR.r3 (i := c) (r1 := some e) (r2 := r2) (r3 := r3) htg q2 g1 (by rw [kF 13 (by decide)]; exact k0)
        refine ⟨?_, q4.trans s1, fun Q' hQ' => ?_⟩
        · have := q2.1.1
          rw [K.2.2.2.2.2.1] at this
          exact this.trans h.1.1.symm
        · have w := cx_wantF (Q := Q') (d := d + 1) (kc := 2) (ks := 8) (c := c) (p := le) htg (by decide) (by decide) R.1 K.1 K.2.1 g1 K.2.2.1 (by have := K.2.2.2.2.2.2.1; have := gl.2.2.2; omega) (fun lu t2 y2 J2 w1 w2 w3 w4 => hQ' _ J2 ⟨le, t1, lu, t2, y2, q1, w1, w2, q3.tr ((R.2.wd cr_kSc_C).tr (w3.wd cr_kGo_C)), ?_, ?_, rfl⟩)
          · rw [kF 17 (by decide), ← q5] at w
            rw [← cell] at w
            exact w
          · rw [cell]
            exact w3.o aw_up_s rfl
          · rw [q5]
            exact (w4 le K.2.2.1.2).symm
      · obtain ⟨le, t1, lu, t2, y2, q1, w1, q2, q3, q4, q5, q6⟩ := hP
        have kb : s.2.1 13 (s.2.1 14 c) = 1 := by have := gl.2.2.1; omega
        have pl := ivb.2.2.2.2 kb 1 (by decide) (by decide)
        have K := mo_dR_kp hI hgb pl p1.1 p1.2 q1
        have L := mo_fR_kp K.1 K.2.1 K.2.2.1 w1
        have kF := fun k hk => ((L.2.2.2.2.1 k hk).1).trans ((K.2.2.2.2.1 k hk).1)
        have k1 := L.2.2.2.2.2.1.trans K.2.2.2.2.2.1
        have g2 : 0 ≤ c ∧ c < t2.1 12 := by rw [k1]; exact g
        have cell : cr_sc G z s.2 c 0 (some e) (some u) r3 = cr_sc G z t2.2 c 0 (some e) (some u) r3 := by
          unfold cr_sc
          rw [kF 14 (by decide), kF 17 (by decide), kF 23 (by decide)]
        have R := CR.r3 (i := c) (r1 := some e) (r2 := some u) (r3 := r3) htg q2 g2 (by rw [kF 13 (by decide)]; exact k0)
        refine ⟨?_, q4, fun Q' hQ' => ?_⟩
        · have := q2.1.1
          rw [k1] at this
          exact this.trans h.1.1.symm
        · have le2 : cr_ll t2 le := ⟨K.2.2.1.1, L.2.2.2.1 _ K.2.2.1.2⟩
          have w := cx_wantD (Q := Q') (d := d + 1) (kc := 14) (ks := 76) (c := c) (w := 0) (p := le) htg (by decide) (by decide) R.1 L.1 L.2.1 g2 (Or.inl rfl) le2 (by have := K.2.2.2.2.2.2.1; have := L.2.2.2.2.2.2.1; have := gl.2.2.2; omega) (fun lo t3 y3 J3 v1 v2 v3 v4 => hQ' _ J3 ⟨le, t1, lu, t2, lo, t3, y3, q1, w1, by rw [kF 16 (by decide)] at v1; exact v1, v2, q3.tr ((R.2.wd cr_kSc_C).tr (v3.wd cr_kGo_C)), ?_, ?_, ?_, rfl⟩)
          · rw [← q5, ← cell] at w
            exact w
          · rw [cell]
            exact v3.o aw_up_s rfl
          · rw [q5]; exact (v4 le le2.2).symm
          · rw [q6]; exact (v4 lu L.2.2.1.2).symm
      · obtain ⟨le, t1, lu, t2, lo, t3, y3, q1, w1, v1, q2, q3, q4, q5, q6, q7⟩ := hP
        have kb : s.2.1 13 (s.2.1 14 c) = 1 := by have := gl.2.2.1; omega
        have pl := ivb.2.2.2.2 kb 1 (by decide) (by decide)
        have K := mo_dR_kp hI hgb pl p1.1 p1.2 q1
        have L := mo_fR_kp K.1 K.2.1 K.2.2.1 w1
        have kF2 := fun k hk => ((L.2.2.2.2.1 k hk).1).trans ((K.2.2.2.2.1 k hk).1)
        have le2 : cr_ll t2 le := ⟨K.2.2.1.1, L.2.2.2.1 _ K.2.2.1.2⟩
        have N := mo_dR_kp L.1 L.2.1 le2 p0.1 (by rw [kF2 15 (by decide)]; exact p0.2) v1
        have kF := fun k hk => ((N.2.2.2.2.1 k hk).1).trans (kF2 k hk)
        have k1 := N.2.2.2.2.2.1.trans (L.2.2.2.2.2.1.trans K.2.2.2.2.2.1)
        have g3 : 0 ≤ c ∧ c < t3.1 12 := by rw [k1]; exact g
        have l1 : cr_ll t3 le := ⟨le2.1, N.2.2.2.1 _ le2.2⟩
        have l2 : cr_ll t3 lu := ⟨L.2.2.1.1, N.2.2.2.1 _ L.2.2.1.2⟩
        have l3 : cr_ll t3 lo := N.2.2.1
        have cell : ∀ k r1 r2 r3, cr_sc G z s.2 c k r1 r2 r3 = cr_sc G z t3.2 c k r1 r2 r3 := by
          intro k r1 r2 r3
          unfold cr_sc
          rw [kF 14 (by decide), kF 17 (by decide), kF 23 (by decide)]
        have R := CR.r3 (i := c) (r1 := some e) (r2 := some u) (r3 := some l) htg q2 g3 (by rw [kF 13 (by decide)]; exact k0)
        have js : aw_up J3 (z 1 c) (cr_sc G z t3.2 c 0 (some e) (some u) (some l)) (z 1 c) = some (cr_sc G z t3.2 c 0 (some e) (some u) (some l)) := aw_up_s
        refine ⟨q4, ?_⟩
        have goalc : cr_sc G z s.2 c 0 (some e) (some u) (some l) = cr_sc G z t3.2 c 0 (some e) (some u) (some l) := cell _ _ _ _
        show aw_W G mT_lock (d + 1 + 1 + 1 + 1 + 1 + 1) Q 105 _ [] (aw_up J3 (z 1 c) (cr_sc G z s.2 c 0 (some e) (some u) (some l))) 0 0
        rw [goalc]
        generalize aw_up J3 (z 1 c) (cr_sc G z t3.2 c 0 (some e) (some u) (some l)) = J4 at R js ⊢
        obtain ⟨⟨R1, R3⟩, R2⟩ := R
        have h1 := C0.ho (l := le) (h' := yHo y3 le + 1) htg R1 l1
        have h2 := C0.ho (l := lu) (h' := cr_u1 (yHo y3) le (yHo y3 le + 1) lu + 1) htg h1.1 l2
        have h3 := C0.ho (l := lo) (h' := cr_u1 (cr_u1 (yHo y3) le (yHo y3 le + 1)) lu (cr_u1 (yHo y3) le (yHo y3 le + 1) lu + 1) lo + 1) htg h2.1 l3
        have d1 := (CR.ld R1 l1).1
        have d2 := (CR.ld h1.1 l2).1
        have d3 := (CR.ld h2.1 l3).1
        have f := C0.three (i := c) (v := 1) (a1 := le) (a2 := lu) (a3 := lo) (k := 1) (r1 := some e) (r2 := some u) (r3 := some l) htg h3.1 g3 rfl (fun _ => ⟨fun _ => by rw [q5], by rw [q6], by rw [q7]⟩)
        rw [q5, q6, q7] at js f
        refine sp_lock_2 js d1 d2 d3 ?_
        refine hq g ⟨by omega, kb⟩ gl.2.2.2 le t1 lu t2 lo t3 q1 w1 v1 _ ⟨_, z, ⟨f.1, ?_⟩, rfl, q3.tr ((R2.wd cr_kSc_C).tr ((h1.2.wd cr_kHo_C).tr ((h2.2.wd cr_kHo_C).tr ((h3.2.wd cr_kHo_C).tr (f.2.wd cr_kSc_C)))))⟩
        intro j j1 j2 j3
        rw [mo_lkd_o _ _ _ _ _ (by decide) (by decide)] at j3
        have a := R3 j j1 j2 j3
        refine ⟨?_, ?_⟩
        · rw [mo_hold_lkd ⟨cp, g3.2⟩ (by rw [kF 13 (by decide), k0]; decide), ← a.1]
          show cr_u1 (cr_u1 (cr_u1 (yHo y3) le (yHo y3 le + 1)) lu (cr_u1 (yHo y3) le (yHo y3 le + 1) lu + 1)) lo (cr_u1 (cr_u1 (yHo y3) le (yHo y3 le + 1)) lu (cr_u1 (yHo y3) le (yHo y3 le + 1) lu + 1) lo + 1) j = yHo y3 j + (cr_q le j + cr_q lu j + cr_q lo j)
          have A : ∀ (F : Int → Int) (b j : Int), cr_u1 F b (F b + 1) j = F j + cr_q b j := by
            intro F b j
            unfold cr_u1 cr_q
            by_cases m : j = b
            · rw [if_pos m, if_pos m.symm, m]
            · rw [if_neg m, if_neg (fun k => m k.symm), Int.add_zero]
          rw [A, A, A]
          omega
        · rw [mo_lkd_o _ _ _ _ _ (by decide) (by decide)]
          exact a.2
    · refine sp_lock_1 (f := s.2.1 5) (a := z 1 c) (k := (s.2.1 13 c).toNat) (b := 0) (lpb := 0) (epb := 0) (aab := 0) (kb := 0) (pe := 0) (rpb := none) (rfb := none) (r1b := none) (r2b := none) (r3b := none) (nb := 0) (PD := fun _ _ => False) (PF := fun _ _ _ => False) (PE := fun _ _ _ _ => False) hkc hks h.1.1 c1 (by omega) hi (fun _ => ⟨c2 c g.1 g.2, by have := iv.1; omega, s1⟩) (fun _ q => absurd q (by have := iv.1; omega)) l1 hcl (fun q => absurd g q) (fun _ _ => hst g (fun m => k0 (by have := iv.1; omega))) (fun _ q => absurd q (by have := iv.1; omega)) (fun gl => absurd gl.2.1 (by have := iv.1; omega)) (fun _ _ _ q => q.elim) (fun _ _ _ _ q => q.elim) (fun _ _ _ _ _ q => q.elim)
  · refine sp_lock_1 (f := s.2.1 5) (a := 0) (lp := 0) (ep := 0) (aa := 0) (k := 0) (rp := none) (rf := none) (r1 := none) (r2 := none) (r3 := none) (n := 0) (b := 0) (lpb := 0) (epb := 0) (aab := 0) (kb := 0) (pe := 0) (rpb := none) (rfb := none) (r1b := none) (r2b := none) (r3b := none) (nb := 0) (PD := fun _ _ => False) (PF := fun _ _ _ => False) (PE := fun _ _ _ _ => False) hkc hks h.1.1 c1 (by omega) hi (fun q => absurd q g) (fun q => absurd q g) l1 hcl hbad (fun q => absurd q g) (fun q => absurd q g) (fun gl => absurd gl.1 g) (fun _ _ _ q => q.elim) (fun _ _ _ _ q => q.elim) (fun _ _ _ _ _ q => q.elim)
end CR16
