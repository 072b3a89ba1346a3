/-! definitions, one after another -/
section CR17
variable {G : aw_G} {J : aw_J} {d kc ks : Nat} {Q : aw_O → aw_J → Prop} {x : Nat} {y : st_Y} {z : cr_Z} {s s' : mo_S}
theorem mo_dfn_app (w : Int × Int) : ∀ (A : mo_WL) (s : mo_S) (ty : Int), 0 ≤ ty → 0 ≤ s.1 24 → mo_dfn (A ++ [w]) s ty = (if (mo_dfn A s ty).2 < 0 then mo_dfn A s ty else if (mo_dfn A s ty).1.1 24 = 120 then ((mo_dfn A s ty).1, -2) else (mo_psh (mo_dfn A s ty).1 w (mo_dfn A s ty).2, (mo_dfn A s ty).1.1 24)) := by
  intro A
  induction A with
  | nil =>
    intro s ty h0 _
    show mo_dfn [w] s ty = (if ty < 0 then (s, ty) else if s.1 24 = 120 then (s, -2) else (mo_psh s w ty, s.1 24))
    rw [if_neg (by omega)]
    rfl
  | cons a A ih =>
    intro s ty h0 h24
    show (if s.1 24 = 120 then (s, -2) else mo_dfn (A ++ [w]) (mo_psh s a ty) (s.1 24)) = _
    by_cases e : s.1 24 = 120
    · have e1 : mo_dfn (a :: A) s ty = (s, -2) := if_pos e
      rw [if_pos e, e1, if_pos (show (-2 : Int) < 0 by decide)]
    · have e1 : mo_dfn (a :: A) s ty = mo_dfn A (mo_psh s a ty) (s.1 24) := if_neg e
      rw [if_neg e, e1]
      exact ih (mo_psh s a ty) (s.1 24) h24 (by show 0 ≤ s.1 24 + 1; omega)
theorem mo_psh_o (s : mo_S) (w : Int × Int) (ty : Int) {f : Nat} (hf : f ≤ 24) : (mo_psh s w ty).2.1 f = s.2.1 f := by
  funext p
  unfold mo_psh
  rw [mo_uz_2, mo_uf_2, mo_uf_2, mo_uf_2, mo_uf_2, if_neg (by omega), if_neg (by omega), if_neg (by omega), if_neg (by omega)]
theorem mo_psh_25 (s : mo_S) (w : Int × Int) (ty p : Int) : (mo_psh s w ty).2.1 25 p = if p = s.1 24 then s.2.1 2 w.2 else s.2.1 25 p := by
  simp only [mo_psh, mo_uz_2, mo_uf_2, Nat.reduceEqDiff, false_and, true_and, if_false]
theorem mo_psh_26 (s : mo_S) (w : Int × Int) (ty p : Int) : (mo_psh s w ty).2.1 26 p = if p = s.1 24 then w.1 else s.2.1 26 p := by
  simp only [mo_psh, mo_uz_2, mo_uf_2, Nat.reduceEqDiff, false_and, true_and, if_false]
theorem mo_psh_28 (s : mo_S) (w : Int × Int) (ty p : Int) : (mo_psh s w ty).2.1 28 p = if p = s.1 24 then ty else s.2.1 28 p := by
  simp only [mo_psh, mo_uz_2, mo_uf_2, Nat.reduceEqDiff, false_and, true_and, if_false]
/-- what a row of definitions needs and keeps -/
def cr_iw (s : mo_S) : Prop := (8 ≤ s.1 24 ∧ s.1 24 ≤ 120) ∧ (∀ i, 0 ≤ i → i < s.1 12 → ∀ k, 0 ≤ k → k < s.2.1 23 i → s.2.1 22 (8 * i + k) < s.1 24) ∧ (∀ c, 0 ≤ c → c < s.1 24 → -1 ≤ s.2.1 28 c ∧ s.2.1 28 c < c)
def cr_df (s s' : mo_S) : Prop := cr_iw s' ∧ s'.1 12 = s.1 12 ∧ (∀ k, k ≤ 24 → s'.2.1 k = s.2.1 k) ∧ s'.2.2 = s.2.2 ∧ s.1 24 ≤ s'.1 24 ∧ ∀ c, c < s.1 24 → s'.2.1 28 c = s.2.1 28 c
theorem cr_df.rf (h : cr_iw s) : cr_df s s := ⟨h, rfl, fun _ _ => rfl, rfl, Int.le_refl _, fun _ _ => rfl⟩
theorem cr_df.psh {w : Int × Int} {ty : Int} (h : cr_df s s') (h24 : s'.1 24 < 120) (hty : 0 ≤ ty ∧ ty < s'.1 24) : cr_df s (mo_psh s' w ty) := by
  obtain ⟨⟨i1, i2, i3⟩, e1, e2, e3, e4, e5⟩ := h
  have e24 : (mo_psh s' w ty).1 24 = s'.1 24 + 1 := rfl
  refine ⟨⟨by rw [e24]; omega, fun i q1 q2 k q3 q4 => ?_, fun c q1 q2 => ?_⟩, e1, fun k hk => (mo_psh_o s' w ty hk).trans (e2 k hk), e3, by rw [e24]; omega, fun c hc => by rw [mo_psh_28, if_neg (by omega)]; exact e5 c hc⟩
  · rw [mo_psh_o s' w ty (by decide)] at q4 ⊢
    have := i2 i q1 q2 k q3 q4
    rw [e24]
    omega
  · rw [e24] at q2
    rw [mo_psh_28]
    by_cases e : c = s'.1 24
    · rw [if_pos e]; omega
    · rw [if_neg e]; exact i3 c q1 (by omega)
/-- where the class has come to, in the midst of a search -/
def cr_tl (G : aw_G) (x : Nat) (y : st_Y) (z : cr_Z) (J : aw_J) (s' : mo_S) (y' : st_Y) (z' : cr_Z) (J' : aw_J) : Prop := CR G x y' z' J' s' ∧ yLo y' = yLo y ∧ (∀ k, k ≤ 7 → z' k = z k) ∧ cr_ag G cr_kC (z 0 5) J J'
theorem cr_tl.to {s' : mo_S} {y' : st_Y} {z' : cr_Z} {J' : aw_J} (h : cr_tl G x y z J s' y' z' J') : cr_to G x z J s' J' := ⟨y', z', h.1, by rw [h.2.2.1 0 (by decide)], h.2.2.2⟩
theorem cr_tl.tr {s1 s2 : mo_S} {y1 y2 : st_Y} {z1 z2 : cr_Z} {J1 J2 : aw_J} (h : cr_tl G x y z J s1 y1 z1 J1) (h' : cr_tl G x y1 z1 J1 s2 y2 z2 J2) : cr_tl G x y z J s2 y2 z2 J2 := ⟨h'.1, h'.2.1.trans h.2.1, fun k hk => (h'.2.2.1 k hk).trans (h.2.2.1 k hk), h.2.2.2.tr (by have := h'.2.2.2; rw [h.2.2.1 0 (by decide)] at this; exact this)⟩
/-- the rows of what is being defined tell W -/
def cr_W (G : aw_G) (J : aw_J) (s : mo_S) (y : st_Y) (z : cr_Z) (W : mo_WL) : Prop := ∃ (oL : Nat → Option Nat) (oN : Int → Int), J (z 0 4) = some (.inl (G.2.2.1 5, 8, .inr (.inr (.inr (.inr oL))))) ∧ J (z 0 5) = some (.inl (G.2.2.1 0, 8, .inl (fun j : Nat => iI (oN (j : Int))))) ∧ (∀ j, iB (oN j)) ∧ ∀ (j : Nat) w, W[j]? = some w → oL j = some (yLo y w.1) ∧ oN (j : Int) = s.2.1 2 w.2
/-- the rows are written -/
theorem CR.rows {oL oL' : Nat → Option Nat} {oN oN' : Int → Int} (htg : aw_tg G) (h : CR G x y z J s) (h4 : J (z 0 4) = some (.inl (G.2.2.1 5, 8, .inr (.inr (.inr (.inr oL)))))) (h5 : J (z 0 5) = some (.inl (G.2.2.1 0, 8, .inl (fun j : Nat => iI (oN (j : Int)))))) (hb : ∀ j, iB (oN' j)) : cr_tl G x y z J s y z (aw_up (aw_up J (z 0 4) (.inl (G.2.2.1 5, 8, .inr (.inr (.inr (.inr oL')))))) (z 0 5) (.inl (G.2.2.1 0, 8, .inl (fun j : Nat => iI (oN' (j : Int)))))) := by
  have ne : z 0 5 ≠ z 0 4 := aw_ne h5 h4 (fun m => by injection m with m; injection m with _ m; injection m with _ m; cases m)
  have ha : cr_ag G (fun i n => i == 5 && n == 8) (z 0 5) J (aw_up (aw_up J (z 0 4) (.inl (G.2.2.1 5, 8, .inr (.inr (.inr (.inr oL')))))) (z 0 5) (.inl (G.2.2.1 0, 8, .inl (fun j : Nat => iI (oN' (j : Int)))))) := (cr_ag.rf.u h4 (cr_shq (by decide) (by decide)) rfl).v ((aw_up_n ne).trans h5) ⟨rfl, rfl⟩
  have j4 : aw_up (aw_up J (z 0 4) (.inl (G.2.2.1 5, 8, .inr (.inr (.inr (.inr oL')))))) (z 0 5) (.inl (G.2.2.1 0, 8, .inl (fun j : Nat => iI (oN' (j : Int))))) (z 0 4) = some (.inl (G.2.2.1 5, 8, .inr (.inr (.inr (.inr oL'))))) := (aw_up_n ne.symm).trans aw_up_s
  have j5 : aw_up (aw_up J (z 0 4) (.inl (G.2.2.1 5, 8, .inr (.inr (.inr (.inr oL')))))) (z 0 5) (.inl (G.2.2.1 0, 8, .inl (fun j : Nat => iI (oN' (j : Int))))) (z 0 5) = some (.inl (G.2.2.1 0, 8, .inl (fun j : Nat => iI (oN' (j : Int))))) := aw_up_s
  generalize aw_up (aw_up J (z 0 4) (.inl (G.2.2.1 5, 8, .inr (.inr (.inr (.inr oL')))))) (z 0 5) (.inl (G.2.2.1 0, 8, .inl (fun j : Nat => iI (oN' (j : Int))))) = J1 at ha j4 j5
  obtain ⟨⟨h1, h2, h3, h4', h6, h7, h8, h9⟩, hH⟩ := h
  refine ⟨⟨⟨ha.o h1 rfl, h2.ag htg ha ⟨rfl, rfl, rfl, fun _ => rfl⟩ ⟨rfl, rfl, rfl⟩, h3, h4'.ag htg ha ⟨rfl, rfl, rfl, fun _ => rfl⟩ ⟨rfl, rfl, rfl⟩ rfl rfl, h6.ag htg ha ⟨rfl, rfl, rfl, fun _ => rfl⟩ ⟨rfl, rfl, rfl, rfl⟩ rfl, h7, h8.ag htg ha rfl rfl rfl, ⟨oL', j4⟩, oN', j5, hb⟩, hH⟩, rfl, fun _ _ => rfl, ha.wd (fun i n => ?_)⟩
  simp [cr_kC]
  omega
end CR17
/-! the search for a class -/
section CR18
variable {G : aw_G} {J : aw_J} {d kc ks : Nat} {Q : aw_O → aw_J → Prop} {x : Nat} {y : st_Y} {z : cr_Z} {s s' : mo_S}
theorem cr_ch_s {t : mo_T} (n : Nat) : ∀ l, cr_ch t n l → cr_ch t (n + 1) l := by
  induction n with
  | zero => exact fun l h => Or.inl h
  | succ n ih =>
    intro l h
    rcases h with h | ⟨h1, h2, h3⟩
    · exact Or.inl h
    · exact Or.inr ⟨h1, h2, ih _ h3⟩
theorem cr_ch_chn (hS : mo_SL s) : ∀ (n : Nat) (l : Int), cr_ch s.2 n l → mo_chn s.2 n l := by
  intro n
  induction n with
  | zero => exact fun l h => h
  | succ n ih =>
    intro l h
    rcases h with h | ⟨h1, h2, h3⟩
    · exact Or.inl h
    · exact Or.inr ⟨hS.2 l h1.1 h1.2 h2, ih _ h3⟩
theorem cr_ch_ll (h50 : ¬ s.2.1 5 0 = 0) {n : Nat} {l : Int} (h : cr_ch s.2 n l) : cr_ll s l := by
  cases n with
  | zero => have : l = 0 := h; rw [this]; exact ⟨by decide, h50⟩
  | succ n =>
    rcases h with h | ⟨h1, h2, h3⟩
    · rw [h]; exact ⟨by decide, h50⟩
    · exact ⟨⟨by omega, h1.2⟩, h2⟩
theorem cr_ch_st (h : C0 G x y z J s) (h50 : ¬ s.2.1 5 0 = 0) : ∀ (n : Nat) (l : Int), cr_ch s.2 n l → st_ch G J s.2 y n l := by
  intro n
  induction n with
  | zero => exact fun l hl => CR.ld h (cr_ch_ll h50 hl)
  | succ n ih =>
    intro l hl
    refine ⟨CR.ld h (cr_ch_ll h50 hl), ?_⟩
    rcases hl with e | ⟨h1, h2, h3⟩
    · exact Or.inl e
    · exact Or.inr (ih _ h3)
theorem cr_sr_c {m l' f : Int} : ∀ (n : Nat) (l : Int), cr_ch s.2 n l → mo_sr s.2 m n l (some (l', f)) → cr_ch s.2 n l' ∧ 1 ≤ l' := by
  intro n
  induction n with
  | zero => intro l _ h; cases h
  | succ n ih =>
    intro l hc h
    have up : 1 ≤ l → mo_sr s.2 m n (s.2.1 7 l) (some (l', f)) → cr_ch s.2 (n + 1) l' ∧ 1 ≤ l' := by
      intro hl hs
      rcases hc with e | ⟨h1, h2, h3⟩
      · omega
      · have := ih _ h3 hs
        exact ⟨cr_ch_s n _ this.1, this.2⟩
    rcases h with ⟨_, h⟩ | ⟨h1, ⟨h2, h3⟩ | ⟨h2, h3⟩⟩
    · cases h
    · rcases h3 with ⟨_, h⟩ | ⟨_, h⟩
      · cases h
      · exact up h1 h
    · rcases h3 with ⟨f', h, _⟩ | ⟨_, h⟩
      · have := Option.some.inj h
        rw [(Prod.mk.inj this).1]
        exact ⟨hc, h1⟩
      · exact up h1 h
/-- who is known to have defined a name: in the class and in the state -/
theorem cr_kn_iff (h : C0 G x y z J s) (hI : Iv0 s) {l c : Int} (hl : cr_ll s l) (hc : 8 ≤ c ∧ c < s.1 24) : some (z 9 c) = some (yLo y l) ↔ s.2.1 26 c = l := by
  have D := h.2.2.2.2.2.2.1.2 c (by omega) hc.2
  have T := hI.2.2.2.2.2.2.2.2.1 c (by omega) hc.2
  have L := CR.ld h hl
  constructor
  · intro e
    have e := Option.some.inj e
    by_cases e0 : 0 ≤ s.2.1 26 c
    · have a := T.2.1 e0
      rw [D.1 e0] at e
      exact (CR.ld h a).inj L ⟨by have := a.1; omega, by have := a.1; omega⟩ ⟨by have := hl.1; omega, by have := hl.1; omega⟩ e
    · exfalso
      obtain ⟨l', k', rp, ca, rf, h', dc, e'⟩ := D.2 (by omega)
      rw [e] at e'
      have m := e'.symm.trans L.1
      injection m with m
      injection m with m
      injection m with _ m
      injection m with _ m
      injection m with _ m
      injection m with _ m
      injection m with _ m
      injection m with _ m
      injection m with _ m
      injection m with _ m
      injection m with m _
      injection m with m
      exact absurd m (by decide)
  · intro e
    rw [D.1 (by rw [e]; exact hl.1.1), e]
theorem mo_rs_n {r : Int × mo_WL} (h : r.1 < 0) : mo_rs s r = (s, r.1) := if_pos h
theorem mo_rs_p {r : Int × mo_WL} (h : 0 ≤ r.1) : mo_rs s r = mo_dfn r.2.reverse s r.1 := if_neg (by omega)
theorem mo_rs_c {r' : Int × mo_WL} {w : Int × Int} (h : 0 ≤ r'.1) (h24 : 0 ≤ s.1 24) : mo_rs s (r'.1, w :: r'.2) = (if (mo_rs s r').2 < 0 then mo_rs s r' else if (mo_rs s r').1.1 24 = 120 then ((mo_rs s r').1, -2) else (mo_psh (mo_rs s r').1 w (mo_rs s r').2, (mo_rs s r').1.1 24)) := by
  rw [mo_rs_p h, mo_rs_p (r := (r'.1, w :: r'.2)) h]
  show mo_dfn (w :: r'.2).reverse s r'.1 = _
  rw [List.reverse_cons]
  exact mo_dfn_app w r'.2.reverse s r'.1 h h24
theorem cx_find_s {n mc ms : Nat} {W : mo_WL} {l m : Int} {r : Int × mo_WL} {go : Int → Int → Int × mo_WL → Prop} (htg : aw_tg G) (hI : Iv0 s) (hgb : cr_gb s) (h : CR G x y z J s) (hW : cr_W G J s y z W) (hWl : ∀ (j : Nat) w, W[j]? = some w → cr_ll s w.1) (hN : W.length ≤ 8) (hc : cr_ch s.2 n l) (hm : 0 ≤ m ∧ m ≤ 63) (hp : mo_pst s.2 (s.1 24) n W l m go r) (hkc : mc + 2 ≤ kc) (hks : ms + 12 ≤ ks) (hgo : ∀ l' f, cr_ch s.2 n l' → cr_ll s l' → 0 ≤ s.2.1 2 (f + 1) ∧ s.2.1 2 (f + 1) ≤ 63 → go l' f r → (W.length = 8 ∧ r = (-2, [])) ∨ (W.length < 8 ∧ ∃ r' : Int × mo_WL, r = (r'.1, (l', f) :: r'.2) ∧ ∀ (J2 : aw_J) (Q' : aw_O → aw_J → Prop), CR G x y z J2 s → cr_W G J2 s y z (W ++ [(l', f)]) → (r'.1 = -2 → r'.2 = [] → ∀ y' z' J', cr_tl G x y z J2 s y' z' J' → Q' (.inl (some .null)) J') → ((mo_rs s r').2 = -2 → ∀ y' z' J', cr_tl G x y z J2 (mo_rs s r').1 y' z' J' → Q' (.inr "java/lang/UnsupportedOperationException") J') → (0 ≤ r'.1 → 0 ≤ (mo_rs s r').2 → (mo_rs s r').2 < (mo_rs s r').1.1 24 → cr_df s (mo_rs s r').1 → ∀ y' z' J', cr_tl G x y z J2 (mo_rs s r').1 y' z' J' → Q' (.inl (some (.ref (z' 8 (mo_rs s r').2)))) J') → aw_W G mT_findFrom (d + 2) Q' 0 [some (.ref x), some (.ref (yLo y l')), some (.int (iI (s.2.1 2 (f + 1)))), some (.int (iI ((W.length : Int) + 1))), none, none] [] J2 mc ms)) (hnull : r.1 = (if W.length = 0 then -1 else -2) → r.2 = [] → ∀ y' z' J', cr_tl G x y z J s y' z' J' → Q (.inl (some .null)) J') (hthr : (mo_rs s r).2 = -2 → ∀ y' z' J', cr_tl G x y z J (mo_rs s r).1 y' z' J' → Q (.inr "java/lang/UnsupportedOperationException") J') (hval : 0 ≤ r.1 → 0 ≤ (mo_rs s r).2 → (mo_rs s r).2 < (mo_rs s r).1.1 24 → cr_df s (mo_rs s r).1 → ∀ y' z' J', cr_tl G x y z J (mo_rs s r).1 y' z' J' → Q (.inl (some (.ref (z' 8 (mo_rs s r).2)))) J') : aw_W G mT_findFrom (d + 4) Q 0 [some (.ref x), some (.ref (yLo y l)), some (.int (iI m)), some (.int (iI (W.length : Int))), none, none] [] J kc ks := by
  obtain ⟨cT, hTY⟩ := h.1.2.2.2.2.2.2.1.1
  have h50 := hI.2.2.2.2.2.1.1
  have i24 := hI.2.1
  have iw : cr_iw s := ⟨i24, fun i i1 i2 k k1 k2 => ((hI.2.2.2.2.2.2.2.1 i i1 i2).2.2.2.1.2 k k1 k2).1.2, hI.2.2.2.2.1⟩
  have rf : cr_tl G x y z J s y z J := ⟨h, rfl, fun _ _ => rfl, cr_ag.rf⟩
  have chn := cr_ch_chn hI.2.2.1 n l hc
  rcases hp with ⟨m8, er⟩ | ⟨m8, sr, er⟩ | ⟨l', f, m8, sr, hp⟩
  · have e : mo_rs s r = (s, m) := by rw [er]; exact mo_rs_p (r := (m, [])) hm.1
    rw [e] at hval
    exact sp_find (t := s.2) (y := y) (n := n) (r0 := none) (PT := fun _ => False) (PV := fun _ _ => False) h.1.1 hTY hm hI.2.2.2.2.2.1.2.2.2 (by rw [hI.2.2.2.2.2.1.2.1]; decide) (fun _ => hval (by rw [er]; exact hm.1) hm.1 (by show m < s.1 24; omega) (cr_df.rf iw) y z J rf) (cr_ch_st h.1 h50 n l hc) chn (fun q => absurd q (by omega)) (fun q => absurd q (by omega)) (fun _ _ _ q => absurd q (by omega)) (fun _ q => q.elim) (fun _ _ q => q.elim)
  · exact sp_find (t := s.2) (y := y) (n := n) (r0 := none) (PT := fun _ => False) (PV := fun _ _ => False) h.1.1 hTY hm hI.2.2.2.2.2.1.2.2.2 (by rw [hI.2.2.2.2.2.1.2.1]; decide) (fun q => absurd q (by omega)) (cr_ch_st h.1 h50 n l hc) chn (fun _ => sr) (fun _ _ => hnull (by rw [er]) (by rw [er]) y z J rf) (fun _ _ _ _ q => (by cases q)) (fun _ q => q.elim) (fun _ _ q => q.elim)
  · have sc := cr_sr_c n l hc sr
    have ll := cr_ch_ll h50 sc.1
    have sm := mo_sr_c n l chn sr
    have fn := mo_fl_n sm.2.1 sm.2.2
    refine sp_find (t := s.2) (y := y) (n := n) (r0 := some (l', f)) (PT := fun J' => ∃ y' z', (mo_rs s r).2 = -2 ∧ cr_tl G x y z J (mo_rs s r).1 y' z' J') (PV := fun v J' => ∃ y' z', (0 ≤ r.1 ∧ 0 ≤ (mo_rs s r).2 ∧ (mo_rs s r).2 < (mo_rs s r).1.1 24 ∧ cr_df s (mo_rs s r).1) ∧ cr_tl G x y z J (mo_rs s r).1 y' z' J' ∧ v = z' 8 (mo_rs s r).2) h.1.1 hTY hm hI.2.2.2.2.2.1.2.2.2 (by rw [hI.2.2.2.2.2.1.2.1]; decide) (fun q => absurd q (by omega)) (cr_ch_st h.1 h50 n l hc) chn (fun _ => sr) (fun _ q => (by cases q)) (fun l'' f'' c _ er hcf Q' hT hV => ?_) (fun J' ⟨y', z', q1, q2⟩ => hthr q1 y' z' J' q2) (fun v J' ⟨y', z', q1, q2, q3⟩ => by rw [q3]; exact hval q1.1 q1.2.1 q1.2.2.1 q1.2.2.2 y' z' J' q2)
    have er := Option.some.inj er
    obtain ⟨e1, e2⟩ := Prod.mk.inj er
    subst e1
    subst e2
    obtain ⟨oL, oN, w4, w5, wb, wW⟩ := hW
    have L := CR.ld h.1 ll
    have W0 : ∀ j, 0 ≤ j → j < (W.length : Int) → ∃ w, W[j.toNat]? = some w := fun j j1 j2 => ⟨W[j.toNat]'(by omega), List.getElem?_eq_getElem (by omega)⟩
    have kn : (∀ e, 8 ≤ e → e < s.1 24 → ¬ (some (z 9 e) = some (yLo y l') ∧ s.2.1 25 e = s.2.1 2 f)) ↔ ∀ c, ¬ mo_kn s.2 (s.1 24) l' m c := by
      constructor
      · intro q c ⟨c1, c2, c3, c4⟩
        exact q c c1 c2 ⟨(cr_kn_iff h.1 hI ll ⟨c1, c2⟩).mpr c3, c4.trans fn.2.symm⟩
      · intro q e e1 e2 ⟨e3, e4⟩
        exact q e ⟨e1, e2, (cr_kn_iff h.1 hI ll ⟨e1, e2⟩).mp e3, e4.trans fn.2⟩
    have iwf : (∃ j, 0 ≤ j ∧ j < (W.length : Int) ∧ oL j.toNat = some (yLo y l') ∧ oN j = s.2.1 2 f) ↔ mo_iw s.2 W l' m := by
      constructor
      · rintro ⟨j, j1, j2, j3, j4⟩
        obtain ⟨w, hw⟩ := W0 j j1 j2
        have a := wW j.toNat w hw
        have lw := hWl j.toNat w hw
        rw [a.1] at j3
        rw [Int.toNat_of_nonneg j1] at a
        exact ⟨j.toNat, w, hw, (CR.ld h.1 lw).inj L ⟨by have := lw.1; omega, by have := lw.1; omega⟩ ⟨by have := ll.1; omega, by have := ll.1; omega⟩ (Option.some.inj j3), by rw [← a.2, j4]; exact fn.2⟩
      · rintro ⟨j, w, hw, e1, e2⟩
        have a := wW j w hw
        have lt : j < W.length := by
          rcases Nat.lt_or_ge j W.length with k | k
          · exact k
          · rw [List.getElem?_eq_none k] at hw; cases hw
        refine ⟨(j : Int), by omega, by omega, ?_, ?_⟩
        · rw [Int.toNat_natCast, a.1, e1]
        · rw [a.2, e2]; exact fn.2.symm
    have hgo' := fun g => hgo l' f sc.1 ll fn.1 g
    refine sp_tdb (mc := mc) (ms := ms) (PT := fun J' => ∃ y' z', (mo_rs s r).2 = -2 ∧ cr_tl G x y z J (mo_rs s r).1 y' z' J') (PT2 := fun J' => ∃ y' z', (mo_rs s r).2 = -2 ∧ cr_tl G x y z J (mo_rs s r).1 y' z' J') (PN0 := fun J' => ∃ y' z', (mo_rs s r).2 = -2 ∧ cr_tl G x y z J (mo_rs s r).1 y' z' J') (PV := fun v J' => ∃ (r' : Int × mo_WL) (y' : st_Y) (z' : cr_Z), r = (r'.1, (l', f) :: r'.2) ∧ (0 ≤ r'.1 ∧ 0 ≤ (mo_rs s r').2 ∧ (mo_rs s r').2 < (mo_rs s r').1.1 24 ∧ cr_df s (mo_rs s r').1) ∧ cr_tl G x y z J (mo_rs s r').1 y' z' J' ∧ v = z' 8 (mo_rs s r').2) (PV2 := fun v J' => ∃ y' z', (0 ≤ r.1 ∧ 0 ≤ (mo_rs s r).2 ∧ (mo_rs s r).2 < (mo_rs s r).1.1 24 ∧ cr_df s (mo_rs s r).1) ∧ cr_tl G x y z J (mo_rs s r).1 y' z' J' ∧ v = z' 8 (mo_rs s r).2) hkc hks h.1.1 hTY hcf (hgb _ _) w4 w5 wb (by omega) ⟨_, L.1⟩ (fun e e1 e2 e3 e4 => ?_) (fun q1 q2 => ?_) (fun q1 q2 q3 => ?_) (fun q1 q2 q3 Q2 g1 g2 g3 => ?_) (fun J' q => hT J' q) (fun J' q => hT J' q) (fun v J' q => ?_) (fun J' q => hT J' q) (fun v J' q => hV v J' q)
    · have k1 : mo_kn s.2 (s.1 24) l' m e := ⟨e1, e2, (cr_kn_iff h.1 hI ll ⟨e1, e2⟩).mp e3, e4.trans fn.2⟩
      rcases hp with ⟨c0, k2, er⟩ | ⟨k2, _⟩
      · have ec := hI.2.2.2.1 l' m e c0 ll.1.1 k1 k2
        subst ec
        have er2 : mo_rs s r = (s, e) := by rw [er]; exact mo_rs_p (r := (e, [])) (by show 0 ≤ e; omega)
        refine hV _ J ⟨y, z, ⟨by rw [er]; show 0 ≤ e; omega, by rw [er2]; show 0 ≤ e; omega, by rw [er2]; exact e2, by rw [er2]; exact cr_df.rf iw⟩, by rw [er2]; exact rf, by rw [er2]⟩
      · exact absurd k1 (k2 e)
    · rcases hp with ⟨c0, k2, er⟩ | ⟨k2, ⟨k3, er⟩ | ⟨k3, g⟩⟩
      · exact absurd k2 (kn.mp q1 c0)
      · have er2 : mo_rs s r = (s, -2) := by rw [er]; exact mo_rs_n (r := (-2, [])) (by decide)
        exact hT J ⟨y, z, by rw [er2], by rw [er2]; exact rf⟩
      · exact absurd (iwf.mp q2) k3
    · rcases hp with ⟨c0, k2, er⟩ | ⟨k2, ⟨k3, er⟩ | ⟨k3, g⟩⟩
      · exact absurd k2 (kn.mp q1 c0)
      · exact absurd (iwf.mpr k3) q2
      · rcases hgo' g with ⟨_, er⟩ | ⟨k4, _⟩
        · have er2 : mo_rs s r = (s, -2) := by rw [er]; exact mo_rs_n (r := (-2, [])) (by decide)
          exact hT J ⟨y, z, by rw [er2], by rw [er2]; exact rf⟩
        · omega
    · rcases hp with ⟨c0, k2, er⟩ | ⟨k2, ⟨k3, er⟩ | ⟨k3, g⟩⟩
      · exact absurd k2 (kn.mp q1 c0)
      · exact absurd (iwf.mpr k3) q2
      · rcases hgo' g with ⟨k4, _⟩ | ⟨k4, r', er, ih⟩
        · omega
        · have R := CR.rows (oL' := va_up oL ((W.length : Int)).toNat (some (yLo y l'))) (oN' := fun j => if j = (W.length : Int) then s.2.1 2 f else oN j) htg h w4 w5 (fun j => by
            show iB (if j = (W.length : Int) then s.2.1 2 f else oN j)
            split
            · exact hgb _ _
            · exact wb j)
          refine ih _ Q2 R.1 ?_ (fun n1 n2 y' z' J' n3 => g1 J' ⟨y', z', ?_, ?_⟩) (fun n1 y' z' J' n3 => g2 J' ⟨y', z', ?_, ?_⟩) (fun n1 n2 n3 n4 y' z' J' n5 => g3 _ J' ⟨r', y', z', er, ⟨n1, n2, n3, n4⟩, R.tr n5, rfl⟩)
          · have ne : z 0 5 ≠ z 0 4 := aw_ne w5 w4 (fun m => by injection m with m; injection m with _ m; injection m with _ m; cases m)
            refine ⟨va_up oL ((W.length : Int)).toNat (some (yLo y l')), fun j => if j = (W.length : Int) then s.2.1 2 f else oN j, (aw_up_n ne.symm).trans aw_up_s, aw_up_s, fun j => ?_, fun j w hw => ?_⟩
            · show iB (if j = (W.length : Int) then s.2.1 2 f else oN j)
              split
              · exact hgb _ _
              · exact wb j
            · by_cases ej : j < W.length
              · rw [List.getElem?_append_left ej] at hw
                have a := wW j w hw
                refine ⟨(va_up_ne _ _ (by omega)).trans a.1, ?_⟩
                show (if (j : Int) = (W.length : Int) then s.2.1 2 f else oN (j : Int)) = _
                rw [if_neg (by omega)]
                exact a.2
              · have ej2 : j = W.length := by
                  rcases Nat.lt_or_ge j (W ++ [(l', f)]).length with k | k
                  · rw [List.length_append, List.length_singleton] at k; omega
                  · rw [List.getElem?_eq_none k] at hw; cases hw
                subst ej2
                rw [List.getElem?_append_right (by omega), Nat.sub_self] at hw
                have hw : (l', f) = w := Option.some.inj hw
                rw [← hw]
                refine ⟨?_, ?_⟩
                · rw [Int.toNat_natCast]
                  exact va_up_self _ _ _
                · show (if (W.length : Int) = (W.length : Int) then s.2.1 2 f else oN (W.length : Int)) = _
                  rw [if_pos rfl]
          · have er2 : mo_rs s r = (s, -2) := by rw [er, n1]; exact mo_rs_n (r := (-2, _)) (show (-2 : Int) < 0 by decide)
            rw [er2]
          · have er2 : mo_rs s r = (s, -2) := by rw [er, n1]; exact mo_rs_n (r := (-2, _)) (show (-2 : Int) < 0 by decide)
            rw [er2]
            exact R.tr n3
          · by_cases n0 : 0 ≤ r'.1
            · rw [er, mo_rs_c n0 (by omega), if_pos (by omega)]
              exact n1
            · have n2 := mo_rs_n (s := s) (r := r') (by omega)
              rw [n2] at n1
              have n1 : r'.1 = -2 := n1
              have er2 : mo_rs s r = (s, -2) := by rw [er, n1]; exact mo_rs_n (r := (-2, _)) (show (-2 : Int) < 0 by decide)
              rw [er2]
          · by_cases n0 : 0 ≤ r'.1
            · rw [er, mo_rs_c n0 (by omega), if_pos (by omega)]
              exact R.tr n3
            · have n2 := mo_rs_n (s := s) (r := r') (by omega)
              rw [n2] at n1 n3
              have n1 : r'.1 = -2 := n1
              have er2 : mo_rs s r = (s, -2) := by rw [er, n1]; exact mo_rs_n (r := (-2, _)) (show (-2 : Int) < 0 by decide)
              rw [er2]
              exact R.tr n3
    · obtain ⟨r', y', z', er, ⟨n1, n2, n3, n4⟩, n5, n6⟩ := q
      have rc := mo_rs_c (s := s) (r' := r') (w := (l', f)) n1 (by omega)
      rw [← er, if_neg (by omega)] at rc
      obtain ⟨cT', hTY'⟩ := n5.1.1.2.2.2.2.2.2.1.1
      have ll' : cr_ll (mo_rs s r').1 l' := ⟨ll.1, by rw [n4.2.2.1 5 (by decide)]; exact ll.2⟩
      have L' := (CR.ld n5.1.1 ll').1
      rw [n5.2.1] at L'
      refine ⟨_, n5.1.1.1, fun Q3 g2 g3 => ?_⟩
      rw [n6]
      refine sp_newType (cfo := c) (by decide) (by decide) n5.1.1.1 hTY'.1 hTY'.2.1 (n5.2.2.2.o hcf rfl) L' (fun e => ?_) (fun e q hq => ?_)
      · rw [if_pos e] at rc
        exact g2 J' ⟨y', z', by rw [rc], by rw [rc]; exact n5⟩
      · rw [if_neg (by omega)] at rc
        have e2 := n4.2.2.1 2 (by decide)
        have ty := C0.type (cT := cT') (l := l') (f := f) (ty := (mo_rs s r').2) (q := q) htg n5.1.1 hTY' e ll' ⟨n2, n3⟩ (by rw [e2]; exact hgb _ _) n4.1.2.1 n4.1.2.2 hq
        have tH := n5.1.2.type (l := l') (f := f) (ty := (mo_rs s r').2) n4.1.1.1
        rw [e2, n5.2.1] at ty
        refine g3 q _ ⟨cr_yH y' (yHo y') (cr_u1 (yDc y') l' (yDc y' l' + 1)), cr_zt z' ((mo_rs s r').1.1 24) q (yLo y l'), ⟨by rw [er]; exact n1, by rw [rc]; show 0 ≤ (mo_rs s r').1.1 24; have := n4.1.1; omega, ?_, by rw [rc]; exact n4.psh e ⟨n2, n3⟩⟩, ?_, ?_⟩
        · rw [rc]
          show (mo_rs s r').1.1 24 < (mo_rs s r').1.1 24 + 1
          omega
        · rw [rc]
          refine ⟨⟨ty.1, tH⟩, n5.2.1, fun k hk => (cr_zt_o hk).trans (n5.2.2.1 k hk), n5.2.2.2.tr ?_⟩
          have := ty.2.wd cr_kTy_C
          have e05 : z' 0 5 = z 0 5 := congrFun (n5.2.2.1 0 (by decide)) 5
          rw [← e05]
          exact this
        · rw [rc]
          show q = cr_zt z' ((mo_rs s r').1.1 24) q (yLo y l') 8 ((mo_rs s r').1.1 24)
          rw [cr_zt_8, if_pos rfl]
theorem cx_find {n : Nat} (htg : aw_tg G) (hI : Iv0 s) (hgb : cr_gb s) : ∀ (k : Nat) (W : mo_WL) (l m : Int) (r : Int × mo_WL) (J : aw_J) (d kc ks : Nat) (Q : aw_O → aw_J → Prop), CR G x y z J s → cr_W G J s y z W → (∀ (j : Nat) w, W[j]? = some w → cr_ll s w.1) → W.length + k = 8 → cr_ch s.2 n l → 0 ≤ m ∧ m ≤ 63 → mo_ph s.2 (s.1 24) n k W l m r → 2 * k + 2 ≤ kc → 12 * k + 12 ≤ ks → (r.1 = (if W.length = 0 then -1 else -2) → r.2 = [] → ∀ y' z' J', cr_tl G x y z J s y' z' J' → Q (.inl (some .null)) J') → ((mo_rs s r).2 = -2 → ∀ y' z' J', cr_tl G x y z J (mo_rs s r).1 y' z' J' → Q (.inr "java/lang/UnsupportedOperationException") J') → (0 ≤ r.1 → 0 ≤ (mo_rs s r).2 → (mo_rs s r).2 < (mo_rs s r).1.1 24 → cr_df s (mo_rs s r).1 → ∀ y' z' J', cr_tl G x y z J (mo_rs s r).1 y' z' J' → Q (.inl (some (.ref (z' 8 (mo_rs s r).2)))) J') → aw_W G mT_findFrom (d + 2 * k + 4) Q 0 [some (.ref x), some (.ref (yLo y l)), some (.int (iI m)), some (.int (iI (W.length : Int))), none, none] [] J kc ks := by
  intro k
  induction k with
  | zero =>
    intro W l m r J d kc ks Q h hW hWl hN hc hm hp hkc hks hnull hthr hval
    exact cx_find_s (mc := 0) (ms := 0) htg hI hgb h hW hWl (by omega) hc hm hp (by omega) (by omega) (fun l' f _ _ _ g => Or.inl ⟨by omega, g⟩) hnull hthr hval
  | succ k ih =>
    intro W l m r J d kc ks Q h hW hWl hN hc hm hp hkc hks hnull hthr hval
    refine cx_find_s (mc := 2 * k + 2) (ms := 12 * k + 12) htg hI hgb h hW hWl (by omega) hc hm hp (by omega) (by omega) (fun l' f c1 c2 c3 g => ?_) hnull hthr hval
    obtain ⟨r', g1, g2⟩ := g
    refine Or.inr ⟨by omega, r', g2, fun J2 Q' a1 a2 a3 a4 a5 => ?_⟩
    have := ih (W ++ [(l', f)]) l' (s.2.1 2 (f + 1)) r' J2 d (2 * k + 2) (12 * k + 12) Q' a1 a2 (fun j w hw => ?_) (by rw [List.length_append, List.length_singleton]; omega) c1 c3 g1 (by omega) (by omega) (fun b1 b2 => a3 (by rw [b1, if_neg (by rw [List.length_append, List.length_singleton]; omega)]) b2) a4 a5
    · rw [List.length_append, List.length_singleton] at this
      exact this
    · by_cases ej : j < W.length
      · rw [List.getElem?_append_left ej] at hw
        exact hWl j w hw
      · rw [List.getElem?_append_right (by omega)] at hw
        have e : w = (l', f) := by
          have : w ∈ [(l', f)] := List.mem_of_getElem? hw
          exact List.mem_singleton.mp this
        rw [e]
        exact c2
end CR18
/-! load and apply -/
section CR19
variable {G : aw_G} {J : aw_J} {d kc ks : Nat} {Q : aw_O → aw_J → Prop} {x : Nat} {y : st_Y} {z : cr_Z} {s s' : mo_S}
theorem cr_W_0 (h : C0 G x y z J s) : cr_W G J s y z [] := by
  obtain ⟨⟨oL, o1⟩, oN, o2, o3⟩ := h.2.2.2.2.2.2.2
  exact ⟨oL, oN, o1, o2, o3, fun j w hw => by rw [List.getElem?_nil] at hw; cases hw⟩
theorem cx_tfs {n : Nat} {c m : Int} {r : Int × mo_WL} (htg : aw_tg G) (hkc : 19 ≤ kc) (hks : 114 ≤ ks) (h : CR G x y z J s) (hI : Iv0 s) (hgb : cr_gb s) (hc : 0 ≤ c ∧ c < s.1 12) (h13 : s.2.1 13 c = 1) (hm : 0 ≤ m ∧ m ≤ 63) (hch : cr_ch s.2 n (s.2.1 21 (3 * c + 2))) (hph : mo_ph s.2 (s.1 24) n 8 [] (s.2.1 21 (3 * c + 2)) m r) (hN : (mo_rs s r).2 = -1 → ∀ y' z' J', cr_tl G x y z J (mo_rs s r).1 y' z' J' → Q (.inr "java/util/NoSuchElementException") J') (hT : (mo_rs s r).2 = -2 → ∀ y' z' J', cr_tl G x y z J (mo_rs s r).1 y' z' J' → Q (.inr "java/lang/UnsupportedOperationException") J') (hV : 0 ≤ (mo_rs s r).2 → (mo_rs s r).2 < (mo_rs s r).1.1 24 → cr_df s (mo_rs s r).1 → ∀ y' z' J', cr_tl G x y z J (mo_rs s r).1 y' z' J' → Q (.inl (some (.ref (z' 8 (mo_rs s r).2)))) J') : aw_W G mT_typeFromScope (d + 22) Q 0 [some (.ref x), some (.ref (z 1 c)), some (.int (iI m)), none] [] J kc ks := by
  obtain ⟨⟨r1, r2, r3, s1, s2⟩, -⟩ := h.1.2.2.2.2.1.2 c hc.1 hc.2
  have e3 := (s2 h13).2.2
  rw [e3] at s1
  refine sp_tfs (mc := 18) (ms := 108) (PN := fun J' => ∃ y' z', (mo_rs s r).2 = -1 ∧ cr_tl G x y z J (mo_rs s r).1 y' z' J') (PT := fun J' => ∃ y' z', (mo_rs s r).2 = -2 ∧ cr_tl G x y z J (mo_rs s r).1 y' z' J') (PV := fun v J' => ∃ y' z', (0 ≤ (mo_rs s r).2 ∧ (mo_rs s r).2 < (mo_rs s r).1.1 24 ∧ cr_df s (mo_rs s r).1) ∧ cr_tl G x y z J (mo_rs s r).1 y' z' J' ∧ v = z' 8 (mo_rs s r).2) hkc hks s1 ⟨_, h.1.1⟩ (fun Q' hn ht hv => ?_) (fun J' ⟨y', z', q1, q2⟩ => hN q1 y' z' J' q2) (fun J' ⟨y', z', q1, q2⟩ => hT q1 y' z' J' q2) (fun v J' ⟨y', z', q1, q2, q3⟩ => by rw [q3]; exact hV q1.1 q1.2.1 q1.2.2 y' z' J' q2)
  have := cx_find (n := n) (x := x) (y := y) (z := z) htg hI hgb 8 [] (s.2.1 21 (3 * c + 2)) m r J (d + 1) 18 108 Q' h (cr_W_0 h.1) (fun j w hw => by rw [List.getElem?_nil] at hw; cases hw) rfl hch hm hph (by decide) (by decide) (fun q1 q2 y' z' J' q3 => hn J' ⟨y', z', ?_, ?_⟩) (fun q1 y' z' J' q3 => ht J' ⟨y', z', q1, q3⟩) (fun q1 q2 q3 q4 y' z' J' q5 => hv _ J' ⟨y', z', ⟨q2, q3, q4⟩, q5, rfl⟩)
  · exact this
  · have q1 : r.1 = -1 := q1
    rw [mo_rs_n (by omega)]
    exact q1
  · have q1 : r.1 = -1 := q1
    rw [mo_rs_n (by omega)]
    exact q3
theorem cx_load {n : Nat} {c m : Int} {r : Int × mo_WL} (htg : aw_tg G) (hkc : 22 ≤ kc) (hks : 132 ≤ ks) (h : CR G x y z J s) (hI : Iv0 s) (hgb : cr_gb s) (hcb : iB c) (hmb : iB m) (hch : (0 ≤ c ∧ c < s.1 12) ∧ 0 ≤ m ∧ m ≤ 63 → s.2.1 13 c = 1 → cr_ch s.2 n (s.2.1 21 (3 * c + 2)) ∧ mo_ph s.2 (s.1 24) n 8 [] (s.2.1 21 (3 * c + 2)) m r) (hbad : ¬ ((0 ≤ c ∧ c < s.1 12) ∧ 0 ≤ m ∧ m ≤ 63) → Q (.inr "java/lang/IllegalArgumentException") J) (hst : (0 ≤ c ∧ c < s.1 12) ∧ 0 ≤ m ∧ m ≤ 63 → ¬ s.2.1 13 c = 1 → Q (.inr "java/lang/IllegalStateException") J) (hN : (0 ≤ c ∧ c < s.1 12) ∧ 0 ≤ m ∧ m ≤ 63 → s.2.1 13 c = 1 → (mo_rs s r).2 = -1 → ∀ J', cr_to G x z J (mo_rs s r).1 J' → Q (.inr "java/util/NoSuchElementException") J') (hT : (0 ≤ c ∧ c < s.1 12) ∧ 0 ≤ m ∧ m ≤ 63 → s.2.1 13 c = 1 → (mo_rs s r).2 = -2 → ∀ J', cr_to G x z J (mo_rs s r).1 J' → Q (.inr "java/lang/UnsupportedOperationException") J') (hV : (0 ≤ c ∧ c < s.1 12) ∧ 0 ≤ m ∧ m ≤ 63 → s.2.1 13 c = 1 → 0 ≤ (mo_rs s r).2 → ∀ J', cr_to G x z J (mo_rs s r).1 J' → Q (.inl (some (.int (iI (mo_rs s r).2)))) J') : aw_W G mT_load (d + 23) Q 0 [some (.ref x), some (.int (iI c)), some (.int (iI m)), none] [] J kc ks := by
  obtain ⟨⟨cS, c1, c2⟩, c3⟩ := h.1.2.2.2.2.1
  have h12 := hI.1
  by_cases g : 0 ≤ c ∧ c < s.1 12
  · have iv := hI.2.2.2.2.2.2.2.1 c g.1 g.2
    obtain ⟨⟨r1, r2, r3, s1, s2⟩, -⟩ := c3 c g.1 g.2
    refine sp_load (d := d + 20) (mc := 19) (ms := 114) (a := z 1 c) (k := (s.2.1 13 c).toNat) (PN := fun J' => ((0 ≤ m ∧ m ≤ 63) ∧ s.2.1 13 c = 1 ∧ (mo_rs s r).2 = -1) ∧ cr_to G x z J (mo_rs s r).1 J') (PT := fun J' => ((0 ≤ m ∧ m ≤ 63) ∧ s.2.1 13 c = 1 ∧ (mo_rs s r).2 = -2) ∧ cr_to G x z J (mo_rs s r).1 J') (PV := fun v J' => ∃ y' z', ((0 ≤ m ∧ m ≤ 63) ∧ s.2.1 13 c = 1 ∧ 0 ≤ (mo_rs s r).2 ∧ (mo_rs s r).2 < (mo_rs s r).1.1 24) ∧ cr_tl G x y z J (mo_rs s r).1 y' z' J' ∧ v = z' 8 (mo_rs s r).2) (by omega) (by omega) h.1.1 c1 (by omega) hcb (fun _ => ⟨c2 c g.1 g.2, by have := iv.1; omega, s1⟩) hmb (fun q => hbad (fun q2 => q ⟨q2.1, by omega⟩)) (fun q1 q2 => hst ⟨g, by omega⟩ (by have := iv.1; omega)) (fun q1 q2 Q' hn ht hv => ?_) (fun J' q => hN ⟨g, q.1.1⟩ q.1.2.1 q.1.2.2 J' q.2) (fun J' q => hT ⟨g, q.1.1⟩ q.1.2.1 q.1.2.2 J' q.2) (fun v J' q => ?_)
    · have hm : 0 ≤ m ∧ m ≤ 63 := by omega
      have k1 : s.2.1 13 c = 1 := by have := iv.1; omega
      have hh := hch ⟨g, hm⟩ k1
      exact cx_tfs (d := d) htg (by decide) (by decide) h hI hgb g k1 hm hh.1 hh.2 (fun q y' z' J' q3 => hn J' ⟨⟨hm, k1, q⟩, q3.to⟩) (fun q y' z' J' q3 => ht J' ⟨⟨hm, k1, q⟩, q3.to⟩) (fun p1 p2 _ y' z' J' q3 => hv _ J' ⟨y', z', ⟨hm, k1, p1, p2⟩, q3, rfl⟩)
    · obtain ⟨y', z', ⟨p1, p2, p3, p4⟩, p5, p6⟩ := q
      obtain ⟨cT, t1, t2, t3⟩ := p5.1.1.2.2.2.2.2.2.1.1
      have tc := (t3 _ p3 p4).2.2
      rw [← p6] at tc
      exact ⟨(mo_rs s r).2, _, tc, hV ⟨g, p1⟩ p2 p3 J' p5.to⟩
  · exact sp_load (d := d + 20) (mc := 0) (ms := 0) (a := 0) (lp := 0) (ep := 0) (aa := 0) (k := 0) (rp := none) (rf := none) (r1 := none) (r2 := none) (r3 := none) (n := 0) (PN := fun _ => False) (PT := fun _ => False) (PV := fun _ _ => False) (by omega) (by omega) h.1.1 c1 (by omega) hcb (fun q => absurd q g) hmb (fun q => hbad (fun q2 => g q2.1)) (fun q => absurd q.1 g) (fun q => absurd q.1 g) (fun _ q => q.elim) (fun _ q => q.elim) (fun _ _ q => q.elim)
theorem mo_dsc_cg {f g : Int → Int} {N o : Int} (hfg : ∀ c, c < N → g c = f c) (hf : ∀ c, 0 ≤ c → c < N → f c < c) : ∀ (n : Nat) (t : Int), t < N → mo_up f n t = o → (∀ m, m ≤ n → 0 ≤ mo_up f m t) → mo_dsc g t o := by
  intro n
  induction n with
  | zero =>
    intro t ht h1 h2
    exact (mo_dsc_iff g t o).mpr ⟨h2 0 (Nat.le_refl _), Or.inl h1⟩
  | succ n ih =>
    intro t ht h1 h2
    have t0 := h2 0 (Nat.zero_le _)
    have t0 : 0 ≤ t := t0
    have a := hf t t0 ht
    refine (mo_dsc_iff g t o).mpr ⟨t0, Or.inr ?_⟩
    rw [hfg t ht]
    exact ih (f t) (by omega) h1 (fun m hm => h2 (m + 1) (by omega))
/-- a type is applied -/
theorem CR.app {c ty : Int} {ap : Nat → Option Nat} (htg : aw_tg G) (h : CR G x y z J s) (hc : 0 ≤ c ∧ c < s.1 12) (hap : st_AP G J (z 6 c) ap (s.2.1 23 c) (fun j => z 8 (s.2.1 22 (8 * c + j)))) (h8 : s.2.1 23 c < 8) {r1 r2 r3 : Option Nat} (hS : st_S J (z 1 c) (if c = 0 then none else some (z 1 (s.2.1 14 c))) (z 2 c) (z 4 c) (if s.2.1 17 c = 0 then none else some (z 7 c)) (G.2.2.2.1 (s.2.1 13 c).toNat) r1 r2 r3 (z 6 c) (s.2.1 23 c)) (hk3 : cr_k3 s.2 y c r1 r2 r3) : cr_to G x z J (mo_uf (mo_uf s 22 (8 * c + s.2.1 23 c) ty) 23 c (s.2.1 23 c + 1)) (aw_up (aw_up J (z 6 c) (.inl (G.2.2.1 6, 8, .inr (.inr (.inr (.inr (va_up ap (s.2.1 23 c).toNat (some (z 8 ty)))))))))  (z 1 c) (.inr (6, [va_rf (if c = 0 then none else some (z 1 (s.2.1 14 c))), .ref (z 2 c), .ref (z 4 c), va_rf (if s.2.1 17 c = 0 then none else some (z 7 c)), .ref (G.2.2.2.1 (s.2.1 13 c).toNat), va_rf r1, va_rf r2, va_rf r3, .ref (z 6 c), .int (iI (s.2.1 23 c + 1))]))) := by
  obtain ⟨-, ⟨P1, p1, p2⟩, ⟨P2, p3, p4⟩, ff, -⟩ := h.1.2.2.2.2.1.2 c hc.1 hc.2
  have hb := hap.2.1
  have ne : z 6 c ≠ z 1 c := aw_ne hap.1 hS (fun m => by cases m)
  have o : ∀ b e, J b = some e → b ≠ z 1 c → b ≠ z 6 c → aw_up (aw_up J (z 6 c) (.inl (G.2.2.1 6, 8, .inr (.inr (.inr (.inr (va_up ap (s.2.1 23 c).toNat (some (z 8 ty))))))))) (z 1 c) (.inr (6, [va_rf (if c = 0 then none else some (z 1 (s.2.1 14 c))), .ref (z 2 c), .ref (z 4 c), va_rf (if s.2.1 17 c = 0 then none else some (z 7 c)), .ref (G.2.2.2.1 (s.2.1 13 c).toNat), va_rf r1, va_rf r2, va_rf r3, .ref (z 6 c), .int (iI (s.2.1 23 c + 1))])) b = some e := fun b e h1 h2 h3 => (aw_up_n h2).trans ((aw_up_n h3).trans h1)
  have j6 : aw_up (aw_up J (z 6 c) (.inl (G.2.2.1 6, 8, .inr (.inr (.inr (.inr (va_up ap (s.2.1 23 c).toNat (some (z 8 ty))))))))) (z 1 c) (.inr (6, [va_rf (if c = 0 then none else some (z 1 (s.2.1 14 c))), .ref (z 2 c), .ref (z 4 c), va_rf (if s.2.1 17 c = 0 then none else some (z 7 c)), .ref (G.2.2.2.1 (s.2.1 13 c).toNat), va_rf r1, va_rf r2, va_rf r3, .ref (z 6 c), .int (iI (s.2.1 23 c + 1))])) (z 6 c) = some (.inl (G.2.2.1 6, 8, .inr (.inr (.inr (.inr (va_up ap (s.2.1 23 c).toNat (some (z 8 ty)))))))) := (aw_up_n ne).trans aw_up_s
  have j1 : aw_up (aw_up J (z 6 c) (.inl (G.2.2.1 6, 8, .inr (.inr (.inr (.inr (va_up ap (s.2.1 23 c).toNat (some (z 8 ty))))))))) (z 1 c) (.inr (6, [va_rf (if c = 0 then none else some (z 1 (s.2.1 14 c))), .ref (z 2 c), .ref (z 4 c), va_rf (if s.2.1 17 c = 0 then none else some (z 7 c)), .ref (G.2.2.2.1 (s.2.1 13 c).toNat), va_rf r1, va_rf r2, va_rf r3, .ref (z 6 c), .int (iI (s.2.1 23 c + 1))])) (z 1 c) = some (.inr (6, [va_rf (if c = 0 then none else some (z 1 (s.2.1 14 c))), .ref (z 2 c), .ref (z 4 c), va_rf (if s.2.1 17 c = 0 then none else some (z 7 c)), .ref (G.2.2.2.1 (s.2.1 13 c).toNat), va_rf r1, va_rf r2, va_rf r3, .ref (z 6 c), .int (iI (s.2.1 23 c + 1))])) := aw_up_s
  generalize aw_up (aw_up J (z 6 c) (.inl (G.2.2.1 6, 8, .inr (.inr (.inr (.inr (va_up ap (s.2.1 23 c).toNat (some (z 8 ty))))))))) (z 1 c) (.inr (6, [va_rf (if c = 0 then none else some (z 1 (s.2.1 14 c))), .ref (z 2 c), .ref (z 4 c), va_rf (if s.2.1 17 c = 0 then none else some (z 7 c)), .ref (G.2.2.2.1 (s.2.1 13 c).toNat), va_rf r1, va_rf r2, va_rf r3, .ref (z 6 c), .int (iI (s.2.1 23 c + 1))])) = J1 at o j6 j1
  have E : ∀ f, f ≠ 22 → f ≠ 23 → (mo_uf (mo_uf s 22 (8 * c + s.2.1 23 c) ty) 23 c (s.2.1 23 c + 1)).2.1 f = s.2.1 f := by
    intro f h1 h2
    rw [mo_uf_o _ h2, mo_uf_o _ h1]
  have E22 : ∀ p, (mo_uf (mo_uf s 22 (8 * c + s.2.1 23 c) ty) 23 c (s.2.1 23 c + 1)).2.1 22 p = if p = 8 * c + s.2.1 23 c then ty else s.2.1 22 p := by
    intro p
    simp only [mo_uf_2, Nat.reduceEqDiff, false_and, true_and, if_false]
  have E23 : ∀ p, (mo_uf (mo_uf s 22 (8 * c + s.2.1 23 c) ty) 23 c (s.2.1 23 c + 1)).2.1 23 p = if p = c then s.2.1 23 c + 1 else s.2.1 23 p := by
    intro p
    simp only [mo_uf_2, Nat.reduceEqDiff, false_and, true_and, if_false]
  have e1 : (mo_uf (mo_uf s 22 (8 * c + s.2.1 23 c) ty) 23 c (s.2.1 23 c + 1)).1 = s.1 := rfl
  have e2 : (mo_uf (mo_uf s 22 (8 * c + s.2.1 23 c) ty) 23 c (s.2.1 23 c + 1)).2.2 = s.2.2 := rfl
  generalize mo_uf (mo_uf s 22 (8 * c + s.2.1 23 c) ty) 23 c (s.2.1 23 c + 1) = s' at E E22 E23 e1 e2
  have := C0.scope (w := z 0 5) (s' := s') (J1 := J1) (i := c) (q := z 7 c) htg h.1 hc (fun b e h1 h2 _ _ _ _ h6 => o b e h1 h2 h6) (by rw [e1]) (by rw [e1]) (fun f hf => E f (by omega) (by omega)) ⟨by rw [e2], by rw [e2]⟩ ?_ ?_
  · rw [cr_z7_id] at this
    refine ⟨y, z, ⟨this.1, ?_⟩, rfl, this.2.wd cr_kSc_C⟩
    exact h.2.cg ⟨rfl, rfl⟩ (by rw [e1]) (by rw [e1]) (E 5 (by decide) (by decide)) (E 7 (by decide) (by decide)) (E 13 (by decide) (by decide)) (E 21 (by decide) (by decide)) (E 26 (by decide) (by decide))
  · intro j hj
    refine ⟨⟨by rw [E 13 (by decide) (by decide)], by rw [E 14 (by decide) (by decide)], by rw [E 16 (by decide) (by decide)], by rw [E 16 (by decide) (by decide)], by rw [E 17 (by decide) (by decide)], by rw [E 18 (by decide) (by decide)], by rw [e2], by rw [e2], by rw [E23, if_neg hj]⟩, fun k _ _ => by rw [E 15 (by decide) (by decide)], fun k k1 k2 => ?_, fun k k1 k2 => by rw [E 21 (by decide) (by decide)]⟩
    rw [E22, if_neg (by omega)]
  · rw [cr_z7_id]
    unfold cr_S1 cr_k3
    rw [E 13 (by decide) (by decide), E 14 (by decide) (by decide), E 15 (by decide) (by decide), E 16 (by decide) (by decide), E 17 (by decide) (by decide), E 18 (by decide) (by decide), E 21 (by decide) (by decide), E23, if_pos rfl, e2]
    refine ⟨⟨r1, r2, r3, j1, hk3⟩, ⟨P1, ⟨o _ _ p1.1 (aw_ne p1.1 hS (fun m => by cases m)) (aw_ne p1.1 hap.1 (fun m => by cases m)), o _ _ p1.2.1 (aw_ne p1.2.1 hS (fun m => by cases m)) (aw_ne p1.2.1 hap.1 (fun m => by injection m with m; injection m with _ m; injection m with m _; exact absurd m (by decide))), p1.2.2⟩, p2⟩, ⟨P2, ⟨o _ _ p3.1 (aw_ne p3.1 hS (fun m => by cases m)) (aw_ne p3.1 hap.1 (fun m => by cases m)), o _ _ p3.2.1 (aw_ne p3.2.1 hS (fun m => by cases m)) (aw_ne p3.2.1 hap.1 (fun m => by injection m with m; injection m with _ m; injection m with m _; exact absurd m (by decide))), p3.2.2⟩, p4⟩, fun q => o _ _ (ff q) (aw_ne (ff q) hS (fun m => by cases m)) (aw_ne (ff q) hap.1 (fun m => by cases m)), _, j6, ⟨by omega, by omega⟩, fun j j1 j2 => ?_⟩
    show va_up ap (s.2.1 23 c).toNat (some (z 8 ty)) j.toNat = some (z 8 (s'.2.1 22 (8 * c + j)))
    rw [E22]
    by_cases e : j = s.2.1 23 c
    · rw [e, if_pos rfl]
      exact va_up_self _ _ _
    · rw [if_neg (by omega), va_up_ne _ _ (by omega)]
      exact hap.2.2 j j1 (by omega)
theorem cr_dr_c {p o v : Int} : ∀ (n : Nat) (l : Int), cr_ch s.2 n l → mo_dr s.2 p n l (some (o, v)) → (1 ≤ o ∧ o ≤ 40) ∧ ¬ s.2.1 5 o = 0 := by
  intro n
  induction n with
  | zero => intro l _ h; cases h
  | succ n ih =>
    intro l hc h
    rcases h with ⟨_, h⟩ | ⟨h1, ⟨w, _, h⟩ | ⟨_, h⟩⟩
    · cases h
    · rcases hc with e | ⟨c1, c2, c3⟩
      · omega
      · rw [(Prod.mk.inj (Option.some.inj h)).1]
        exact ⟨c1, c2⟩
    · rcases hc with e | ⟨c1, c2, c3⟩
      · omega
      · exact ih _ c3 h
theorem cr_tl.t2 {s1 s2 : mo_S} {y1 : st_Y} {z1 : cr_Z} {J1 J2 : aw_J} (h : cr_tl G x y z J s1 y1 z1 J1) (h' : cr_to G x z1 J1 s2 J2) : cr_to G x z J s2 J2 := by
  obtain ⟨y2, z2, k1, k2, k3⟩ := h'
  have e : z1 0 5 = z 0 5 := congrFun (h.2.2.1 0 (by decide)) 5
  rw [e] at k2 k3
  exact ⟨y2, z2, k1, k2, h.2.2.2.tr k3⟩
theorem cx_apply {n : Nat} {c p : Int} {r0 : Option (Int × Int)} {r : Int × mo_WL} (htg : aw_tg G) (hkc : 22 ≤ kc) (hks : 132 ≤ ks) (h : CR G x y z J s) (hI : Iv0 s) (hgb : cr_gb s) (hcb : iB c) (hpb : iB p) (hch : (0 ≤ c ∧ c < s.1 12) ∧ 0 ≤ p ∧ p ≤ 9 → s.2.1 13 c = 1 → cr_ch s.2 n (s.2.1 21 (3 * c + 2)) ∧ mo_dr s.2 p n (s.2.1 21 (3 * c + 2)) r0) (hph : (0 ≤ c ∧ c < s.1 12) ∧ 0 ≤ p ∧ p ≤ 9 → s.2.1 13 c = 1 → ∀ o v, r0 = some (o, v) → (v < 8 ∨ mo_lt s.2 p v n (s.2.1 21 (3 * c + 2))) → (0 ≤ v ∧ v ≤ 63) ∧ mo_ph s.2 (s.1 24) n 8 [] (s.2.1 21 (3 * c + 2)) v r) (hbad : ¬ ((0 ≤ c ∧ c < s.1 12) ∧ 0 ≤ p ∧ p ≤ 9) → Q (.inr "java/lang/IllegalArgumentException") J) (hst : (0 ≤ c ∧ c < s.1 12) ∧ 0 ≤ p ∧ p ≤ 9 → ¬ s.2.1 13 c = 1 → Q (.inr "java/lang/IllegalStateException") J) (h0 : (0 ≤ c ∧ c < s.1 12) ∧ 0 ≤ p ∧ p ≤ 9 → s.2.1 13 c = 1 → (r0 = none ∨ ∃ o v, r0 = some (o, v) ∧ ¬ (v < 8 ∨ mo_lt s.2 p v n (s.2.1 21 (3 * c + 2)))) → Q (.inl (some (.int (iI (-1))))) J) (hN : (0 ≤ c ∧ c < s.1 12) ∧ 0 ≤ p ∧ p ≤ 9 → s.2.1 13 c = 1 → ∀ o v, r0 = some (o, v) → (v < 8 ∨ mo_lt s.2 p v n (s.2.1 21 (3 * c + 2))) → (mo_rs s r).2 = -1 → ∀ J', cr_to G x z J (mo_rs s r).1 J' → Q (.inr "java/util/NoSuchElementException") J') (hT : (0 ≤ c ∧ c < s.1 12) ∧ 0 ≤ p ∧ p ≤ 9 → s.2.1 13 c = 1 → ∀ o v, r0 = some (o, v) → (v < 8 ∨ mo_lt s.2 p v n (s.2.1 21 (3 * c + 2))) → (mo_rs s r).2 = -2 → ∀ J', cr_to G x z J (mo_rs s r).1 J' → Q (.inr "java/lang/UnsupportedOperationException") J') (hV2 : (0 ≤ c ∧ c < s.1 12) ∧ 0 ≤ p ∧ p ≤ 9 → s.2.1 13 c = 1 → ∀ o v, r0 = some (o, v) → (v < 8 ∨ mo_lt s.2 p v n (s.2.1 21 (3 * c + 2))) → 0 ≤ (mo_rs s r).2 → ¬ mo_dsc ((mo_rs s r).1.2.1 28) (mo_rs s r).2 1 → ∀ J', cr_to G x z J (mo_rs s r).1 J' → Q (.inl (some (.int (iI (-2))))) J') (hV0 : (0 ≤ c ∧ c < s.1 12) ∧ 0 ≤ p ∧ p ≤ 9 → s.2.1 13 c = 1 → ∀ o v, r0 = some (o, v) → (v < 8 ∨ mo_lt s.2 p v n (s.2.1 21 (3 * c + 2))) → 0 ≤ (mo_rs s r).2 → mo_dsc ((mo_rs s r).1.2.1 28) (mo_rs s r).2 1 → (∃ k, 0 ≤ k ∧ k < (mo_rs s r).1.2.1 23 c ∧ (mo_rs s r).1.2.1 22 (8 * c + k) = (mo_rs s r).2) → ∀ J', cr_to G x z J (mo_rs s r).1 J' → Q (.inl (some (.int (iI 0)))) J') (hV3 : (0 ≤ c ∧ c < s.1 12) ∧ 0 ≤ p ∧ p ≤ 9 → s.2.1 13 c = 1 → ∀ o v, r0 = some (o, v) → (v < 8 ∨ mo_lt s.2 p v n (s.2.1 21 (3 * c + 2))) → 0 ≤ (mo_rs s r).2 → mo_dsc ((mo_rs s r).1.2.1 28) (mo_rs s r).2 1 → ¬ (∃ k, 0 ≤ k ∧ k < (mo_rs s r).1.2.1 23 c ∧ (mo_rs s r).1.2.1 22 (8 * c + k) = (mo_rs s r).2) → (mo_rs s r).1.2.1 23 c = 8 → ∀ J', cr_to G x z J (mo_rs s r).1 J' → Q (.inl (some (.int (iI (-3))))) J') (hV1 : (0 ≤ c ∧ c < s.1 12) ∧ 0 ≤ p ∧ p ≤ 9 → s.2.1 13 c = 1 → ∀ o v, r0 = some (o, v) → (v < 8 ∨ mo_lt s.2 p v n (s.2.1 21 (3 * c + 2))) → 0 ≤ (mo_rs s r).2 → mo_dsc ((mo_rs s r).1.2.1 28) (mo_rs s r).2 1 → ¬ (∃ k, 0 ≤ k ∧ k < (mo_rs s r).1.2.1 23 c ∧ (mo_rs s r).1.2.1 22 (8 * c + k) = (mo_rs s r).2) → (mo_rs s r).1.2.1 23 c < 8 → ∀ J', cr_to G x z J (mo_uf (mo_uf (mo_rs s r).1 22 (8 * c + (mo_rs s r).1.2.1 23 c) (mo_rs s r).2) 23 c ((mo_rs s r).1.2.1 23 c + 1)) J' → Q (.inl (some (.int (iI 1)))) J') : aw_W G mT_apply (d + 23) Q 0 [some (.ref x), some (.int (iI c)), some (.int (iI p)), none, none, none] [] J kc ks := by
  obtain ⟨⟨cS, c1, c2⟩, c3⟩ := h.1.2.2.2.2.1
  have h12 := hI.1
  by_cases g : 0 ≤ c ∧ c < s.1 12
  · have iv := hI.2.2.2.2.2.2.2.1 c g.1 g.2
    obtain ⟨⟨r1, r2, r3, s1, s2⟩, -⟩ := c3 c g.1 g.2
    refine sp_apply (d := d + 19) (mc := 19) (ms := 114) (a := z 1 c) (k := (s.2.1 13 c).toNat) (e3 := yLo y (s.2.1 21 (3 * c + 2))) (PD := fun q v => ((0 ≤ p ∧ p ≤ 9) ∧ s.2.1 13 c = 1 ∧ ∃ o, r0 = some (o, v) ∧ (v < 8 ∨ mo_lt s.2 p v n (s.2.1 21 (3 * c + 2)))) ∧ ∃ w, J q = some (.inr (2, [w, .int (iI v)]))) (P0 := ((0 ≤ p ∧ p ≤ 9) ∧ s.2.1 13 c = 1) ∧ (r0 = none ∨ ∃ o v, r0 = some (o, v) ∧ ¬ (v < 8 ∨ mo_lt s.2 p v n (s.2.1 21 (3 * c + 2))))) (PN := fun J' => ((0 ≤ p ∧ p ≤ 9) ∧ s.2.1 13 c = 1 ∧ (∃ o v, r0 = some (o, v) ∧ (v < 8 ∨ mo_lt s.2 p v n (s.2.1 21 (3 * c + 2)))) ∧ (mo_rs s r).2 = -1) ∧ cr_to G x z J (mo_rs s r).1 J') (PT := fun J' => ((0 ≤ p ∧ p ≤ 9) ∧ s.2.1 13 c = 1 ∧ (∃ o v, r0 = some (o, v) ∧ (v < 8 ∨ mo_lt s.2 p v n (s.2.1 21 (3 * c + 2)))) ∧ (mo_rs s r).2 = -2) ∧ cr_to G x z J (mo_rs s r).1 J') (PV := fun u J' => ∃ y' z', ((0 ≤ p ∧ p ≤ 9) ∧ s.2.1 13 c = 1 ∧ (∃ o v, r0 = some (o, v) ∧ (v < 8 ∨ mo_lt s.2 p v n (s.2.1 21 (3 * c + 2)))) ∧ 0 ≤ (mo_rs s r).2 ∧ (mo_rs s r).2 < (mo_rs s r).1.1 24 ∧ cr_df s (mo_rs s r).1) ∧ cr_tl G x y z J (mo_rs s r).1 y' z' J' ∧ u = z' 8 (mo_rs s r).2) (by omega) (by omega) h.1.1 c1 (by omega) hcb (fun _ => ⟨c2 c g.1 g.2, by have := iv.1; omega, s1⟩) hpb (fun q => hbad (fun q2 => q ⟨q2.1, by omega⟩)) (fun q1 q2 => hst ⟨g, by omega⟩ (by have := iv.1; omega)) (fun q1 q2 => ?_) (fun q => h0 ⟨g, q.1.1⟩ q.1.2 q.2) (fun q1 q2 b v q3 => ?_) (fun J' q => ?_) (fun J' q => ?_) (fun u J' q => ?_)
    · have hp : 0 ≤ p ∧ p ≤ 9 := by omega
      have k1 : s.2.1 13 c = 1 := by have := iv.1; omega
      have hh := hch ⟨g, hp⟩ k1
      have h50 := hI.2.2.2.2.2.1.1
      have chn := cr_ch_chn hI.2.2.1 n _ hh.1
      refine ⟨(s2 k1).2.2, fun Q' hn hv => ?_⟩
      exact sp_vis (n0 := n) (r := r0) (t := s.2) hpb hI.2.2.2.2.2.1.2.2.2 hgb (fun o v e => by
        have hd := hh.2
        rw [e] at hd
        obtain ⟨b1, i, j, b2, b3, b4, b5, b6⟩ := mo_dr_b n _ chn hd
        have lo := cr_dr_c n _ hh.1 hd
        rw [b5]
        exact hI.2.2.2.2.2.2.2.2.2.1 _ (Or.inr ⟨o, i, lo.1, lo.2, b2, rfl⟩) j b4.1 b4.2) (cr_ch_st h.1 h50 n _ hh.1) chn hh.2 (fun e => hn ⟨⟨hp, k1⟩, Or.inl e⟩) (fun o v e m => hn ⟨⟨hp, k1⟩, Or.inr ⟨o, v, e, m⟩⟩) (fun o v q e m w => hv q v ⟨⟨hp, k1, o, e, m⟩, w⟩)
    · obtain ⟨⟨q4, q5, o, q6, q7⟩, q8⟩ := q3
      have hh := hch ⟨g, q4⟩ q5
      have hp := hph ⟨g, q4⟩ q5 o v q6 q7
      refine ⟨q8, fun Q' hn ht hv => ?_⟩
      exact cx_tfs (d := d) htg (by decide) (by decide) h hI hgb g q5 hp.1 hh.1 hp.2 (fun q y' z' J' q3 => hn J' ⟨⟨q4, q5, ⟨o, v, q6, q7⟩, q⟩, q3.to⟩) (fun q y' z' J' q3 => ht J' ⟨⟨q4, q5, ⟨o, v, q6, q7⟩, q⟩, q3.to⟩) (fun p1 p2 p3 y' z' J' q3 => hv _ J' ⟨y', z', ⟨q4, q5, ⟨o, v, q6, q7⟩, p1, p2, p3⟩, q3, rfl⟩)
    · obtain ⟨⟨q4, q5, ⟨o, v, q6, q7⟩, q8⟩, q9⟩ := q
      exact hN ⟨g, q4⟩ q5 o v q6 q7 q8 J' q9
    · obtain ⟨⟨q4, q5, ⟨o, v, q6, q7⟩, q8⟩, q9⟩ := q
      exact hT ⟨g, q4⟩ q5 o v q6 q7 q8 J' q9
    · obtain ⟨y', z', ⟨q4, q5, ⟨o, v, q6, q7⟩, q8, q9, q10⟩, q11, q12⟩ := q
      have gg : 0 ≤ c ∧ c < (mo_rs s r).1.1 12 := by rw [q10.2.1]; exact g
      obtain ⟨⟨r1', r2', r3', s1', s2'⟩, -, -, -, ap, hap⟩ := q11.1.1.2.2.2.2.1.2 c gg.1 gg.2
      obtain ⟨cT, hTY⟩ := q11.1.1.2.2.2.2.2.2.1.1
      have i24 := q10.1.1
      have e23 := q10.2.2.1 23 (by decide)
      have e22 := q10.2.2.1 22 (by decide)
      have z1 := q11.2.2.1 1 (by decide)
      have z3 : z' 0 3 = z 0 3 := congrFun (q11.2.2.1 0 (by decide)) 3
      have ex : (∃ i, 0 ≤ i ∧ i < (mo_rs s r).1.2.1 23 c ∧ z' 8 ((mo_rs s r).1.2.1 22 (8 * c + i)) = z' 8 (mo_rs s r).2) ↔ (∃ k, 0 ≤ k ∧ k < (mo_rs s r).1.2.1 23 c ∧ (mo_rs s r).1.2.1 22 (8 * c + k) = (mo_rs s r).2) := by
        constructor
        · rintro ⟨i, i1, i2, i3⟩
          rw [e23] at i2
          have b := (iv.2.2.2.1.2 i i1 i2).1
          rw [← e22] at b
          have := q10.2.2.2.2.1
          exact ⟨i, i1, by rw [e23]; exact i2, hTY.inj ⟨b.1, by omega⟩ ⟨q8, q9⟩ i3⟩
        · rintro ⟨i, i1, i2, i3⟩
          exact ⟨i, i1, i2, by rw [i3]⟩
      have exd : (∃ k, 0 ≤ k ∧ k < (mo_rs s r).1.2.1 23 c ∧ (mo_rs s r).1.2.1 22 (8 * c + k) = (mo_rs s r).2) → mo_dsc ((mo_rs s r).1.2.1 28) (mo_rs s r).2 1 := by
        rintro ⟨i, i1, i2, i3⟩
        rw [e23] at i2
        obtain ⟨b1, k, b2, b3⟩ := iv.2.2.2.1.2 i i1 i2
        rw [e22] at i3
        rw [← i3]
        exact mo_dsc_cg (fun c hc => q10.2.2.2.2.2 c hc) (fun c h1 h2 => (hI.2.2.2.2.1 c h1 h2).2) k _ b1.2 b2 b3
      have t1 := hTY.2.2 1 (by decide) (by omega)
      have tt := hTY.2.2 _ q8 q9
      refine ⟨⟨_, by rw [← z1]; exact s1'⟩, (∃ k, 0 ≤ k ∧ k < (mo_rs s r).1.2.1 23 c ∧ (mo_rs s r).1.2.1 22 (8 * c + k) = (mo_rs s r).2), mo_dsc ((mo_rs s r).1.2.1 28) (mo_rs s r).2 1, (mo_rs s r).1.2.1 23 c = 8, cT, z' 8 1, (aw_up (aw_up J' (z' 6 c) (.inl (G.2.2.1 6, 8, .inr (.inr (.inr (.inr (va_up ap ((mo_rs s r).1.2.1 23 c).toNat (some (z' 8 (mo_rs s r).2))))))))) (z' 1 c) (.inr (6, [va_rf (if c = 0 then none else some (z' 1 ((mo_rs s r).1.2.1 14 c))), .ref (z' 2 c), .ref (z' 4 c), va_rf (if (mo_rs s r).1.2.1 17 c = 0 then none else some (z' 7 c)), .ref (G.2.2.2.1 ((mo_rs s r).1.2.1 13 c).toNat), va_rf r1', va_rf r2', va_rf r3', .ref (z' 6 c), .int (iI ((mo_rs s r).1.2.1 23 c + 1))]))), ?_, fun a => hV0 ⟨g, q4⟩ q5 o v q6 q7 q8 (exd a) a J' q11.to, ⟨_, _, _, _, _, _, _, by rw [← z3]; exact q11.1.1.1⟩, by rw [← z3]; exact hTY.1, t1.2.1, ?_, fun _ b => hV2 ⟨g, q4⟩ q5 o v q6 q7 q8 b J' q11.to, ?_, fun a b f => hV3 ⟨g, q4⟩ q5 o v q6 q7 q8 b a f J' q11.to, fun a b f => hV1 ⟨g, q4⟩ q5 o v q6 q7 q8 b a (by have := hap.2.1; omega) _ ?_⟩
      · intro Q' k1 k0
        rw [q12, ← z1]
        exact sp_hasApplied s1' hap (fun m => k1 (ex.mp m)) (fun m => k0 (fun m2 => m (ex.mpr m2)))
      · intro Q' k1 k0
        rw [q12]
        exact sp_sub hTY q10.1.2.2 ⟨q8, q9⟩ ⟨by decide, by omega⟩ k1 k0
      · intro Q' k1 k0
        rw [q12, ← z1]
        exact sp_appendApplied s1' hap tt.2.2 k1 (fun m => k0 (by omega))
      · exact q11.t2 (CR.app htg q11.1 gg hap (by have := hap.2.1; omega) s1' s2')
  · exact sp_apply (d := d + 19) (mc := 0) (ms := 0) (a := 0) (lp := 0) (ep := 0) (aa := 0) (k := 0) (e3 := 0) (rp := none) (rf := none) (r1 := none) (r2 := none) (r3 := none) (n := 0) (PD := fun _ _ => False) (P0 := False) (PN := fun _ => False) (PT := fun _ => False) (PV := fun _ _ => False) (by omega) (by omega) h.1.1 c1 (by omega) hcb (fun q => absurd q g) hpb (fun q => hbad (fun q2 => g q2.1)) (fun q => absurd q.1 g) (fun q => absurd q.1 g) (fun q => q.elim) (fun q => absurd q.1 g) (fun _ q => q.elim) (fun _ q => q.elim) (fun _ _ q => q.elim)
end CR19
