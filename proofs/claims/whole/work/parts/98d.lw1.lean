/-! the law's picture: class and reference side by side -/
section LW1
variable {G : aw_G} {J J1 J2 : aw_J} {d kc ks : Nat} {Q : aw_O → aw_J → Prop} {x b o : Nat} {ad : Nat → Nat} {s s' s'' : mo_S} {f : Nat → Int64}
/-- the class is at s', the reference at s; the long is f 0 -/
def LM (G : aw_G) (x b o : Nat) (ad : Nat → Nat) (J : aw_J) (s s' : mo_S) (f : Nat → Int64) : Prop := Iv s' ∧ cr_gb s ∧ ∃ y z, CR G x y z J s' ∧ mo_P G b ad s J ∧ (∀ k, mo_isA k = true → ad k ≠ z 0 5) ∧ J o = some (.inl (G.2.2.1 2, 1, .inr (.inl f)))
theorem mo_len_1 (k : Nat) : mo_len k ≠ 1 := by
  unfold mo_len
  split <;> decide
theorem mo_no {k : Nat} (hP : mo_P G b ad s J) (ho : J o = some (.inl (G.2.2.1 2, 1, .inr (.inl f)))) (hk : mo_isA k = true) : o ≠ ad k := by
  intro e
  have h := hP.2.1 k hk
  rw [← e, ho] at h
  have l := mo_len_1 k
  unfold mo_arr at h
  split at h
  all_goals
    injection h with h
    injection h with h
    injection h with _ h
    injection h with h _
    exact l h.symm
theorem mo_nob (hP : mo_P G b ad s J) (ho : J o = some (.inl (G.2.2.1 2, 1, .inr (.inl f)))) : o ≠ b := fun e => by
  have h := hP.1
  rw [← e, ho] at h
  cases h
/-- the class has gone on -/
theorem LM.cl {y : st_Y} {z : cr_Z} (hP : mo_P G b ad s J) (hw : ∀ k, mo_isA k = true → ad k ≠ z 0 5) (ho : J o = some (.inl (G.2.2.1 2, 1, .inr (.inl f)))) (h : cr_to G x z J s' J1) (hI : Iv s') (_ : cr_gb s') : LM G x b o ad J1 s s' f := by
  obtain ⟨y', z', h1, h2, h3⟩ := h
  exact ⟨hI, hP.2.2.2.2, y', z', h1, hP.ag h3 hw, fun k hk => by rw [h2]; exact hw k hk, h3.j ho rfl⟩
theorem LM.cm {z : cr_Z} (hP : mo_P G b ad s J) (hw : ∀ k, mo_isA k = true → ad k ≠ z 0 5) (ho : J o = some (.inl (G.2.2.1 2, 1, .inr (.inl f)))) (h : cr_to G x z J s' J1) (hI : Iv s') : LM G x b o ad J1 s s' f := by
  obtain ⟨y', z', h1, h2, h3⟩ := h
  exact ⟨hI, hP.2.2.2.2, y', z', h1, hP.ag h3 hw, fun k hk => by rw [h2]; exact hw k hk, h3.j ho rfl⟩
/-- the long is written -/
theorem LM.ou {g : Nat → Int64} (htg : aw_tg G) (h : LM G x b o ad J s s' f) : LM G x b o ad (aw_up J o (.inl (G.2.2.1 2, 1, .inr (.inl g)))) s s' g := by
  obtain ⟨hI, hg, y, z, h1, hP, hw, ho⟩ := h
  have ag : cr_ag G (fun i n => i == 2 && n == 1) 0 J (aw_up J o (.inl (G.2.2.1 2, 1, .inr (.inl g)))) := cr_ag.rf.u ho ⟨rfl, rfl⟩ rfl
  obtain ⟨oN, q1, _⟩ := h1.1.2.2.2.2.2.2.2.2
  refine ⟨hI, hg, y, z, ⟨h1.1.ag htg ag ⟨⟨rfl, rfl, rfl, fun _ => rfl⟩, ⟨rfl, rfl, rfl⟩, ⟨rfl, rfl, rfl, rfl⟩, rfl, rfl, rfl, rfl, rfl, rfl, rfl⟩ (aw_up_n (aw_ne q1 ho (fun m => by injection m with m; injection m with _ m; injection m with m _; exact absurd m (by decide)))), h1.2⟩, ⟨(aw_up_n (fun e => mo_nob hP ho e.symm)).trans hP.1, fun k hk => (aw_up_n (fun e => mo_no hP ho hk e.symm)).trans (hP.2.1 k hk), hP.2.2⟩, hw, aw_up_s⟩
/-- the reference has gone on -/
theorem LM.rf (htg : aw_tg G) (h : LM G x b o ad J s s' f) (hP' : mo_P G b ad s'' J1) (hF : mo_F b ad J J1) (e : cr_eq s' s'') : LM G x b o ad J1 s'' s'' f := by
  obtain ⟨hI, hg, y, z, h1, hP, hw, ho⟩ := h
  exact ⟨hI.cg e, hP'.2.2.2.2, y, z, (mo_F.CR hP hF h1 htg hw).cg e, hP', hw, (hF o (mo_nob hP ho) (fun k hk => mo_no hP ho hk)).trans ho⟩
theorem LM.dn (h : LM G x b o ad J s s' f) (e : cr_eq s' s) (hg : cr_gb s) : LM G x b o ad J s s f := by
  obtain ⟨hI, _, y, z, h1, hP, hw, ho⟩ := h
  exact ⟨hI.cg e, hg, y, z, h1.cg e, hP, hw, ho⟩
theorem LM.uz (h : LM G x b o ad J s s f) : LM G x b o ad J s (mo_uz s 0 0) f := by
  obtain ⟨hI, hg, y, z, h1, hP, hw, ho⟩ := h
  exact ⟨hI.cg (cr_eq.uz s 0), hg, y, z, h1.cg (cr_eq.uz s 0), hP, hw, ho⟩
theorem LM.out (h : LM G x b o ad J s s' f) : J o = some (.inl (G.2.2.1 2, 1, .inr (.inl f))) := by
  obtain ⟨_, _, _, _, _, _, _, q⟩ := h
  exact q
theorem mo_lst_u {p : Int → Prop} {n k k' : Int} (h : mo_lst p n k) (h' : mo_lst p n k') : k = k' := by
  obtain ⟨a1, a2, a3, a4⟩ := h
  obtain ⟨b1, b2, b3, b4⟩ := h'
  by_cases e1 : k < k'
  · exact absurd (a4 (by omega)) (b3 k a1 e1)
  · by_cases e2 : k' < k
    · exact absurd (b4 (by omega)) (a3 k' b1 e2)
    · omega
/-- how the reference's call is used -/
theorem lw_use {M : aw_M} {Q1 : aw_O → mo_S → Prop} {L : List (Option Value)} (h : LM G x b o ad J s s' f) (k : mw G b ad M d Q1 0 L [] s kc ks) (hq : ∀ oc s'' J', mo_P G b ad s'' J' → mo_F b ad J J' → Q1 oc s'' → Q oc J') : aw_W G M d Q 0 L [] J kc ks := by
  obtain ⟨_, _, y, z, _, hP, _⟩ := h
  exact k J Q hP hq
end LW1
/-! the calls, class and reference, one after the other -/
section LW2
variable {G : aw_G} {J J1 J2 : aw_J} {d kc ks : Nat} {Q : aw_O → aw_J → Prop} {x b o : Nat} {ad : Nat → Nat} {s s' s'' : mo_S} {f : Nat → Int64}
-- wipe
def lr_wipe (s : mo_S) (i c : Int) (s' : mo_S) : Prop := (c = 1 ∧ ¬ (0 ≤ i ∧ i ≤ 9) ∧ s' = s) ∨ (c = 0 ∧ (0 ≤ i ∧ i ≤ 9) ∧ s' = mo_uf (mo_uf (mo_uz s 0 0) 1 i 0) 3 i 0)
theorem lc_wipe {i : Int} (htg : aw_tg G) (hkc : 40 ≤ kc) (hks : 400 ≤ ks) (h : LM G x b o ad J s s f) (hi : iB i) (hq : ∀ c s' J1, lr_wipe s i c s' → LM G x b o ad J1 s s' f → Q (.inl (some (.int (iI c)))) J1) : aw_W G mW_wipe (d + 30) Q 0 [some (.ref x), some (.int (iI i)), none] [] J kc ks := by
  have h0 := h
  obtain ⟨hI, hg, y, z, h1, hP, hw, ho⟩ := h
  refine ww_wipe (d := d + 29) (mc := 40) (ms := 400) (PV := fun J' => (0 ≤ i ∧ i ≤ 9) ∧ LM G x b o ad J' s (mo_uf (mo_uf (mo_uz s 0 0) 1 i 0) 3 i 0) f) (P1 := fun J' => J' = J ∧ ¬ (0 ≤ i ∧ i ≤ 9)) hkc hks ⟨_, h1.1.1⟩ (fun Q' hv hx => ?_) (fun J' q => hq 0 _ J' (Or.inr ⟨rfl, q.1, rfl⟩) q.2) (fun J' q => by rw [q.1]; exact hq 1 s J (Or.inl ⟨rfl, q.2, rfl⟩) h0)
  exact cx_wipe (d := d + 27) htg (by decide) (by decide) h1 hI.1.2.2.2.2.2.1.2.2.2 hi (fun q => hx J ⟨rfl, by omega⟩) (fun q J' q2 => hv J' ⟨by omega, LM.cl (y := y) hP hw ho q2 ((hI.cg (cr_eq.uz s 0)).wipe (by omega)) (((show cr_gb (mo_uz s 0 0) from hg).uf (by decide)).uf (by decide))⟩)
theorem lm_wipe {i c : Int} (htg : aw_tg G) (h : LM G x b o ad J s s' f) (hi : iB i) (hr : lr_wipe s i c s') (hq : ∀ s'' J2, LM G x b o ad J2 s'' s'' f → s''.1 0 = c → Q (.inl none) J2) : aw_W G mM_wipe (d + 30) Q 0 [some (.ref b), some (.int (iI i))] [] J kc ks := by
  refine lw_use (Q1 := fun oc s'' => oc = .inl none ∧ s''.1 0 = c ∧ cr_eq s' s'') h (mo_wipe (d := d + 29) hi (fun q => ?_) (fun q => ?_)) (fun oc s'' J' p1 p2 p3 => by rw [p3.1]; exact hq s'' J' (h.rf htg p1 p2 p3.2.2) p3.2.1)
  · rcases hr with ⟨e1, e2, e3⟩ | ⟨e1, e2, e3⟩
    · exact ⟨rfl, e1.symm, by rw [e3]; exact cr_eq.uz s 1⟩
    · exact absurd e2 q
  · rcases hr with ⟨e1, e2, e3⟩ | ⟨e1, e2, e3⟩
    · exact absurd q e2
    · exact ⟨rfl, e1.symm, by rw [e3]; exact ⟨rfl, rfl, fun _ _ => rfl, rfl⟩⟩
-- file
def lr_file (s : mo_S) (i n u v c r : Int) (s' : mo_S) : Prop := (c = 1 ∧ ¬ ((0 ≤ i ∧ i ≤ 9) ∧ (8 ≤ n ∧ n ≤ 63) ∧ (0 ≤ u ∧ u ≤ 63) ∧ (0 ≤ v ∧ v ≤ 9)) ∧ s' = s) ∨ (((0 ≤ i ∧ i ≤ 9) ∧ (8 ≤ n ∧ n ≤ 63) ∧ (0 ≤ u ∧ u ≤ 63) ∧ (0 ≤ v ∧ v ≤ 9)) ∧ ∃ k, mo_lst (fun j => s.2.1 2 (24 * i + 3 * j) = n) (s.2.1 1 i) k ∧ ((c = 2 ∧ k = 8 ∧ s' = s) ∨ (c = 0 ∧ k < 8 ∧ r = (if s.2.1 1 i < k + 1 then k + 1 else s.2.1 1 i) ∧ s' = mo_filed s i n u v k r)))
theorem lc_file {i n u v : Int} (htg : aw_tg G) (hkc : 40 ≤ kc) (hks : 400 ≤ ks) (h : LM G x b o ad J s s f) (hi : iB i) (hn : iB n) (hu : iB u) (hv : iB v) (hq : ∀ c r s' J1 f', lr_file s i n u v c r s' → LM G x b o ad J1 s s' f' → (c = 0 → f' 0 = (iI r).toInt64) → Q (.inl (some (.int (iI c)))) J1) : aw_W G mW_file (d + 30) Q 0 [some (.ref x), some (.int (iI i)), some (.int (iI n)), some (.int (iI u)), some (.int (iI v)), some (.ref o), none] [] J kc ks := by
  have h0 := h
  obtain ⟨hI, hg, y, z, h1, hP, hw, ho⟩ := h
  refine ww_file (d := d + 29) (mc := 40) (ms := 400) (PV := fun r J' => ∃ s', lr_file s i n u v 0 r s' ∧ LM G x b o ad J' s s' f) (P1 := fun J' => LM G x b o ad J' s s f ∧ lr_file s i n u v 1 0 s) (P2 := fun J' => LM G x b o ad J' s s f ∧ lr_file s i n u v 2 0 s) hkc hks ⟨_, h1.1.1⟩ (fun Q' hv' hx1 hx2 => ?_) (fun r J' q => ?_) (fun J' q => hq 1 0 s J' f q.2 q.1 (fun e => absurd e (by decide))) (fun J' q => hq 2 0 s J' f q.2 q.1 (fun e => absurd e (by decide)))
  · refine cx_file (d := d + 26) htg (by decide) (by decide) h1 hI.1.2.2.2.2.2.1.2.2.2 hi hn hu hv (fun q => hx1 J ⟨h0, Or.inl ⟨rfl, by omega, rfl⟩⟩) (fun g k hk k8 J' q2 => hx2 J' ⟨LM.cl (y := y) hP hw ho q2 hI hg, Or.inr ⟨by omega, k, hk, Or.inl ⟨rfl, k8, rfl⟩⟩⟩) (fun g k hk k8 J' q2 => hv' _ J' ⟨_, Or.inr ⟨by omega, k, hk, Or.inr ⟨rfl, k8, rfl, rfl⟩⟩, LM.cl (y := y) hP hw ho q2 (hI.file (by omega) (by omega) (by omega) hk k8 rfl) ?_⟩)
    have b8 := hk.2.1
    have b9 := hk.1
    have hb := (hI.1.2.2.1.1 i (by omega) (by omega)).1.1
    exact (((((show cr_gb (mo_uz s 0 0) from hg).uf hn).uf hu).uf hv).uf (by split <;> omega))
  · obtain ⟨s', q1, q2⟩ := q
    have q3 := q2.out
    exact ⟨f, q3, hq 0 r s' _ _ q1 (LM.ou htg q2) (fun _ => if_pos rfl)⟩
theorem lm_file {i n u v c r : Int} (htg : aw_tg G) (h : LM G x b o ad J s s' f) (hI : Iv s) (hi : iB i) (hn : iB n) (hu : iB u) (hv : iB v) (hr : lr_file s i n u v c r s') (hq : ∀ r' s'' J2, LM G x b o ad J2 s'' s'' f → s''.1 0 = c → (c = 0 → r' = r) → Q (.inl (some (.int (iI r')))) J2) : aw_W G mM_file (d + 30) Q 0 [some (.ref b), some (.int (iI i)), some (.int (iI n)), some (.int (iI u)), some (.int (iI v)), none, none] [] J kc ks := by
  have hf : 0 ≤ i ∧ i ≤ 9 → 0 ≤ s.2.1 1 i ∧ s.2.1 1 i ≤ 8 := fun q => (hI.1.2.2.1.1 i q.1 q.2).1.1
  refine lw_use (Q1 := fun oc s'' => ∃ r', oc = .inl (some (.int (iI r'))) ∧ s''.1 0 = c ∧ (c = 0 → r' = r) ∧ cr_eq s' s'') h (mo_file (d := d + 29) hi hn hu hv hf (fun q => ?_) (fun g k hk => ?_)) (fun oc s'' J' p1 p2 ⟨r', p3, p4, p5, p6⟩ => by rw [p3]; exact hq r' s'' J' (h.rf htg p1 p2 p6) p4 p5)
  · rcases hr with ⟨e1, e2, e3⟩ | ⟨e2, _⟩
    · exact ⟨0, rfl, e1.symm, fun e => absurd (e1.symm.trans e) (by decide), by rw [e3]; exact cr_eq.uz s 1⟩
    · exact absurd e2 q
  · rcases hr with ⟨e1, e2, e3⟩ | ⟨e2, k', hk', e⟩
    · exact absurd g e2
    · have ek := mo_lst_u hk hk'
      subst ek
      refine mo_file_e (s := mo_uz s 0 0) (d := d + 29) g.1 hn hu hv ⟨hk.1, hk.2.1⟩ (hf g.1) (fun k8 => ?_) (fun k8 kn => ?_) (fun k8 kn => ?_)
      · rcases e with ⟨c1, c2, c3⟩ | ⟨c1, c2, c3⟩
        · exact ⟨0, rfl, c1.symm, fun e => absurd (c1.symm.trans e) (by decide), by rw [c3]; exact ⟨rfl, rfl, fun _ _ => rfl, rfl⟩⟩
        · omega
      · rcases e with ⟨c1, c2, c3⟩ | ⟨c1, c2, c3, c4⟩
        · omega
        · have c5 : r = k + 1 := by rw [c3]; have : k = s.2.1 1 i := kn; rw [if_pos (by omega)]
          exact ⟨_, rfl, c1.symm, fun _ => c5.symm, by rw [c4, c5]; exact ⟨rfl, rfl, fun _ _ => rfl, rfl⟩⟩
      · rcases e with ⟨c1, c2, c3⟩ | ⟨c1, c2, c3, c4⟩
        · omega
        · have c5 : r = s.2.1 1 i := by rw [c3]; have : k < s.2.1 1 i := kn; rw [if_neg (by omega)]
          exact ⟨_, rfl, c1.symm, fun _ => c5.symm, by rw [c4, c5]; exact ⟨rfl, rfl, fun _ _ => rfl, rfl⟩⟩
-- descriptor
def lr_descriptor (s : mo_S) (i n u c r : Int) (s' : mo_S) : Prop := (c = 1 ∧ ¬ ((0 ≤ i ∧ i ≤ 9) ∧ (0 ≤ n ∧ n ≤ 9) ∧ (0 ≤ u ∧ u ≤ 63)) ∧ s' = s) ∨ (((0 ≤ i ∧ i ≤ 9) ∧ (0 ≤ n ∧ n ≤ 9) ∧ (0 ≤ u ∧ u ≤ 63)) ∧ ∃ k, mo_lst (fun j => s.2.1 4 (8 * i + 2 * j) = n) (s.2.1 3 i) k ∧ ((c = 2 ∧ k = 4 ∧ s' = s) ∨ (c = 0 ∧ k < 4 ∧ r = (if s.2.1 3 i < k + 1 then k + 1 else s.2.1 3 i) ∧ s' = mo_descd s i n u k r)))
theorem lc_descriptor {i n u : Int} (htg : aw_tg G) (hkc : 40 ≤ kc) (hks : 400 ≤ ks) (h : LM G x b o ad J s s f) (hi : iB i) (hn : iB n) (hu : iB u) (hq : ∀ c r s' J1 f', lr_descriptor s i n u c r s' → LM G x b o ad J1 s s' f' → (c = 0 → f' 0 = (iI r).toInt64) → Q (.inl (some (.int (iI c)))) J1) : aw_W G mW_descriptor (d + 30) Q 0 [some (.ref x), some (.int (iI i)), some (.int (iI n)), some (.int (iI u)), some (.ref o), none] [] J kc ks := by
  have h0 := h
  obtain ⟨hI, hg, y, z, h1, hP, hw, ho⟩ := h
  refine ww_descriptor (d := d + 29) (mc := 40) (ms := 400) (PV := fun r J' => ∃ s', lr_descriptor s i n u 0 r s' ∧ LM G x b o ad J' s s' f) (P1 := fun J' => LM G x b o ad J' s s f ∧ lr_descriptor s i n u 1 0 s) (P2 := fun J' => LM G x b o ad J' s s f ∧ lr_descriptor s i n u 2 0 s) hkc hks ⟨_, h1.1.1⟩ (fun Q' hv' hx1 hx2 => ?_) (fun r J' q => ?_) (fun J' q => hq 1 0 s J' f q.2 q.1 (fun e => absurd e (by decide))) (fun J' q => hq 2 0 s J' f q.2 q.1 (fun e => absurd e (by decide)))
  · refine cx_descriptor (d := d + 26) htg (by decide) (by decide) h1 hI.1.2.2.2.2.2.1.2.2.2 hi hn hu (fun q => hx1 J ⟨h0, Or.inl ⟨rfl, by omega, rfl⟩⟩) (fun g k hk k8 J' q2 => hx2 J' ⟨LM.cl (y := y) hP hw ho q2 hI hg, Or.inr ⟨by omega, k, hk, Or.inl ⟨rfl, k8, rfl⟩⟩⟩) (fun g k hk k8 J' q2 => hv' _ J' ⟨_, Or.inr ⟨by omega, k, hk, Or.inr ⟨rfl, k8, rfl, rfl⟩⟩, LM.cl (y := y) hP hw ho q2 (hI.desc (by omega) (by omega) hk k8 rfl) ?_⟩)
    have b8 := hk.2.1
    have b9 := hk.1
    have hb := (hI.1.2.2.1.1 i (by omega) (by omega)).1.2.1
    exact ((((show cr_gb (mo_uz s 0 0) from hg).uf hn).uf hu).uf (by split <;> omega))
  · obtain ⟨s', q1, q2⟩ := q
    have q3 := q2.out
    exact ⟨f, q3, hq 0 r s' _ _ q1 (LM.ou htg q2) (fun _ => if_pos rfl)⟩
theorem lm_descriptor {i n u c r : Int} (htg : aw_tg G) (h : LM G x b o ad J s s' f) (hI : Iv s) (hi : iB i) (hn : iB n) (hu : iB u) (hr : lr_descriptor s i n u c r s') (hq : ∀ r' s'' J2, LM G x b o ad J2 s'' s'' f → s''.1 0 = c → (c = 0 → r' = r) → Q (.inl (some (.int (iI r')))) J2) : aw_W G mM_descriptor (d + 30) Q 0 [some (.ref b), some (.int (iI i)), some (.int (iI n)), some (.int (iI u)), none] [] J kc ks := by
  have hf : 0 ≤ i ∧ i ≤ 9 → 0 ≤ s.2.1 3 i ∧ s.2.1 3 i ≤ 4 := fun q => (hI.1.2.2.1.1 i q.1 q.2).1.2.1
  refine lw_use (Q1 := fun oc s'' => ∃ r', oc = .inl (some (.int (iI r'))) ∧ s''.1 0 = c ∧ (c = 0 → r' = r) ∧ cr_eq s' s'') h (mo_desc (d := d + 29) hi hn hu hf (fun q => ?_) (fun g k hk => ?_)) (fun oc s'' J' p1 p2 ⟨r', p3, p4, p5, p6⟩ => by rw [p3]; exact hq r' s'' J' (h.rf htg p1 p2 p6) p4 p5)
  · rcases hr with ⟨e1, e2, e3⟩ | ⟨e2, _⟩
    · exact ⟨0, rfl, e1.symm, fun e => absurd (e1.symm.trans e) (by decide), by rw [e3]; exact cr_eq.uz s 1⟩
    · exact absurd e2 q
  · rcases hr with ⟨e1, e2, e3⟩ | ⟨e2, k', hk', e⟩
    · exact absurd g e2
    · have ek := mo_lst_u hk hk'
      subst ek
      refine mo_desc_e (s := mo_uz s 0 0) (d := d + 29) g.1 hn hu ⟨hk.1, hk.2.1⟩ (hf g.1) (fun k8 => ?_) (fun k8 kn => ?_) (fun k8 kn => ?_)
      · rcases e with ⟨c1, c2, c3⟩ | ⟨c1, c2, c3⟩
        · exact ⟨0, rfl, c1.symm, fun e => absurd (c1.symm.trans e) (by decide), by rw [c3]; exact ⟨rfl, rfl, fun _ _ => rfl, rfl⟩⟩
        · omega
      · rcases e with ⟨c1, c2, c3⟩ | ⟨c1, c2, c3, c4⟩
        · omega
        · have c5 : r = k + 1 := by rw [c3]; have : k = s.2.1 3 i := kn; rw [if_pos (by omega)]
          exact ⟨_, rfl, c1.symm, fun _ => c5.symm, by rw [c4, c5]; exact ⟨rfl, rfl, fun _ _ => rfl, rfl⟩⟩
      · rcases e with ⟨c1, c2, c3⟩ | ⟨c1, c2, c3, c4⟩
        · omega
        · have c5 : r = s.2.1 3 i := by rw [c3]; have : k < s.2.1 3 i := kn; rw [if_neg (by omega)]
          exact ⟨_, rfl, c1.symm, fun _ => c5.symm, by rw [c4, c5]; exact ⟨rfl, rfl, fun _ _ => rfl, rfl⟩⟩
end LW2
/-! the calls, one after the other: child, add, filter, loader, applied, info, isA, look -/
section LW3
variable {G : aw_G} {J J1 J2 : aw_J} {d kc ks : Nat} {Q : aw_O → aw_J → Prop} {x b o : Nat} {ad : Nat → Nat} {s s' s'' : mo_S} {f : Nat → Int64}
theorem Iv.s13 (h : Iv s) : ∀ i, 0 ≤ i → i < s.1 12 → 0 ≤ s.2.1 13 i ∧ s.2.1 13 i ≤ 2 := fun i i1 i2 => (h.1.2.2.2.2.2.2.2.1 i i1 i2).1
-- child
def lr_child (s : mo_S) (p c r : Int) (s' : mo_S) : Prop := (c = 1 ∧ ¬ (0 ≤ p ∧ p < s.1 12 ∧ s.2.1 13 p ≠ 2) ∧ s' = s) ∨ (c = 2 ∧ (0 ≤ p ∧ p < s.1 12 ∧ s.2.1 13 p ≠ 2) ∧ s.1 12 = 12 ∧ s' = s) ∨ (c = 0 ∧ (0 ≤ p ∧ p < s.1 12 ∧ s.2.1 13 p ≠ 2) ∧ s.1 12 < 12 ∧ r = s.1 12 + 1 - 1 ∧ s' = mo_uz (mo_uf s 14 (s.1 12) p) 12 (s.1 12 + 1))
theorem lc_child {p : Int} (htg : aw_tg G) (hkc : 40 ≤ kc) (hks : 400 ≤ ks) (h : LM G x b o ad J s s f) (hp : iB p) (hq : ∀ c r s' J1 f', lr_child s p c r s' → LM G x b o ad J1 s s' f' → (c = 0 → f' 0 = (iI r).toInt64) → Q (.inl (some (.int (iI c)))) J1) : aw_W G mW_child (d + 30) Q 0 [some (.ref x), some (.int (iI p)), some (.ref o), none] [] J kc ks := by
  have h0 := h
  obtain ⟨hI, hg, y, z, h1, hP, hw, ho⟩ := h
  refine ww_child (d := d + 29) (mc := 40) (ms := 400) (PV := fun r J' => ∃ s', lr_child s p 0 r s' ∧ LM G x b o ad J' s s' f) (P1 := fun J' => LM G x b o ad J' s s f ∧ lr_child s p 1 0 s) (P2 := fun J' => LM G x b o ad J' s s f ∧ lr_child s p 2 0 s) hkc hks ⟨_, h1.1.1⟩ (fun Q' hv' hx1 hx2 => ?_) (fun r J' q => ?_) (fun J' q => hq 1 0 s J' f q.2 q.1 (fun e => absurd e (by decide))) (fun J' q => hq 2 0 s J' f q.2 q.1 (fun e => absurd e (by decide)))
  · have zz := hI.1.2.2.2.2.2.2.2.2.2.2.1
    refine cx_child (d := d + 26) htg (by decide) (by decide) h1 hI.1.1 hI.s13 (fun i i1 i2 => ((hI.1.2.2.2.2.2.2.2.1 i (by omega) i2).2.1 i1).2) (fun q => zz _ (Int.le_refl _) (by omega)) hp (fun q => hx1 J ⟨h0, Or.inl ⟨rfl, q, rfl⟩⟩) (fun q1 q2 => hx2 J ⟨h0, Or.inr (Or.inl ⟨rfl, q1, q2, rfl⟩)⟩) (fun q1 q2 J' q3 => hv' _ J' ⟨_, Or.inr (Or.inr ⟨rfl, q1, q2, rfl, rfl⟩), LM.cl (y := y) hP hw ho q3 (hI.child ⟨q1.1, q1.2.1⟩ q2) ?_⟩)
    exact (show cr_gb (mo_uf s 14 (s.1 12) p) from hg.uf hp)
  · obtain ⟨s', q1, q2⟩ := q
    have q3 := q2.out
    exact ⟨f, q3, hq 0 r s' _ _ q1 (LM.ou htg q2) (fun _ => if_pos rfl)⟩
theorem lm_child {p c r : Int} (htg : aw_tg G) (h : LM G x b o ad J s s' f) (hI : Iv s) (hp : iB p) (hr : lr_child s p c r s') (hq : ∀ r' s'' J2, LM G x b o ad J2 s'' s'' f → s''.1 0 = c → (c = 0 → r' = r) → Q (.inl (some (.int (iI r')))) J2) : aw_W G mM_child (d + 30) Q 0 [some (.ref b), some (.int (iI p))] [] J kc ks := by
  refine lw_use (Q1 := fun oc s'' => ∃ r', oc = .inl (some (.int (iI r'))) ∧ s''.1 0 = c ∧ (c = 0 → r' = r) ∧ cr_eq s' s'') h (mo_child (d := d + 29) hp hI.1.1 (fun q => ?_) (fun q1 q2 => ?_) (fun q1 q2 => ?_)) (fun oc s'' J' p1 p2 ⟨r', p3, p4, p5, p6⟩ => by rw [p3]; exact hq r' s'' J' (h.rf htg p1 p2 p6) p4 p5)
  · rcases hr with ⟨e1, e2, e3⟩ | ⟨e1, e2, _⟩ | ⟨e1, e2, _⟩
    · exact ⟨0, rfl, e1.symm, fun e => absurd (e1.symm.trans e) (by decide), by rw [e3]; exact cr_eq.uz s 1⟩
    · exact absurd e2 q
    · exact absurd e2 q
  · rcases hr with ⟨e1, e2, e3⟩ | ⟨e1, e2, e3, e4⟩ | ⟨e1, e2, e3, _⟩
    · exact absurd q1 e2
    · exact ⟨0, rfl, e1.symm, fun e => absurd (e1.symm.trans e) (by decide), by rw [e4]; exact ⟨rfl, rfl, fun _ _ => rfl, rfl⟩⟩
    · omega
  · rcases hr with ⟨e1, e2, e3⟩ | ⟨e1, e2, e3, e4⟩ | ⟨e1, e2, e3, e4, e5⟩
    · exact absurd q1 e2
    · omega
    · exact ⟨_, rfl, e1.symm, fun _ => e4.symm, by rw [e5]; exact ⟨rfl, rfl, fun _ _ => rfl, rfl⟩⟩
-- add
def lr_add (s : mo_S) (i m e c r : Int) (s' : mo_S) : Prop := (c = 1 ∧ ¬ ((0 ≤ i ∧ i < s.1 12) ∧ 0 ≤ m ∧ m ≤ 9) ∧ s' = s) ∨ (((0 ≤ i ∧ i < s.1 12) ∧ 0 ≤ m ∧ m ≤ 9) ∧ ((c = 2 ∧ 0 < s.2.1 13 i ∧ s' = s) ∨ (s.2.1 13 i ≤ 0 ∧ ((c = 0 ∧ r = 0 ∧ ¬ (s.2.1 16 (2 * i + e) < 4 ∧ ∀ j, 0 ≤ j → j < s.2.1 16 (2 * i + e) → s.2.1 15 (4 * (2 * i + e) + j) ≠ m) ∧ s' = s) ∨ (c = 0 ∧ r = 1 ∧ (s.2.1 16 (2 * i + e) < 4 ∧ ∀ j, 0 ≤ j → j < s.2.1 16 (2 * i + e) → s.2.1 15 (4 * (2 * i + e) + j) ≠ m) ∧ s' = mo_added s i e m)))))
theorem lc_add {i m e : Int} (htg : aw_tg G) (hkc : 40 ≤ kc) (hks : 400 ≤ ks) (h : LM G x b o ad J s s f) (hi : iB i) (hm : iB m) (he : e = 0 ∨ e = 1) (hq : ∀ c r s' J1 f', lr_add s i m e c r s' → LM G x b o ad J1 s s' f' → (c = 0 → (r = 0 ∨ r = 1) ∧ f' 0 = (if r = 0 then 0 else 1)) → Q (.inl (some (.int (iI c)))) J1) : aw_W G mW_add (d + 30) Q 0 [some (.ref x), some (.int (iI i)), some (.int (iI m)), some (.int (iI e)), some (.ref o), none] [] J kc ks := by
  have h0 := h
  obtain ⟨hI, hg, y, z, h1, hP, hw, ho⟩ := h
  refine ww_add (d := d + 29) (mc := 40) (ms := 400) (PV := fun r J' => ∃ s', (r = 0 ∨ r = 1) ∧ lr_add s i m e 0 r s' ∧ LM G x b o ad J' s s' f) (P1 := fun J' => LM G x b o ad J' s s f ∧ lr_add s i m e 1 0 s) (P2 := fun J' => LM G x b o ad J' s s f ∧ lr_add s i m e 2 0 s) hkc hks ⟨_, h1.1.1⟩ (fun Q' hv' hx1 hx2 => ?_) (fun r J' q => ?_) (fun J' q => hq 1 0 s J' f q.2 q.1 (fun e => absurd e (by decide))) (fun J' q => hq 2 0 s J' f q.2 q.1 (fun e => absurd e (by decide)))
  · refine cx_add (d := d + 26) htg (by decide) (by decide) h1 hI.1.1 hI.s13 hi hm he (fun q => hx1 J ⟨h0, Or.inl ⟨rfl, fun q2 => q ⟨q2.1, by omega⟩, rfl⟩⟩) (fun q1 q2 => hx2 J ⟨h0, Or.inr ⟨⟨q1.1, by omega⟩, Or.inl ⟨rfl, q2, rfl⟩⟩⟩) (fun q1 q2 q3 => hv' 0 J ⟨s, Or.inl rfl, Or.inr ⟨⟨q1.1, by omega⟩, Or.inr ⟨q2, Or.inl ⟨rfl, rfl, q3, rfl⟩⟩⟩, h0⟩) (fun q1 q2 q3 J' q4 => hv' 1 J' ⟨_, Or.inr rfl, Or.inr ⟨⟨q1.1, by omega⟩, Or.inr ⟨q2, Or.inr ⟨rfl, rfl, q3, rfl⟩⟩⟩, LM.cl (y := y) hP hw ho q4 (hI.add q1.1 he (by omega) q3.1) ?_⟩)
    have b4 := ((hI.1.2.2.2.2.2.2.2.1 i q1.1.1 q1.1.2).2.2.1 e he).1
    exact (hg.uf hm).uf (by omega)
  · obtain ⟨s', q0, q1, q2⟩ := q
    have q3 := q2.out
    exact ⟨q0, f, q3, hq 0 r s' _ _ q1 (LM.ou htg q2) (fun _ => ⟨q0, if_pos rfl⟩)⟩
theorem lm_add {i m e c r : Int} (htg : aw_tg G) (h : LM G x b o ad J s s' f) (hI : Iv s) (hi : iB i) (hm : iB m) (he : e = 0 ∨ e = 1) (hr : lr_add s i m e c r s') (hq : ∀ r' s'' J2, LM G x b o ad J2 s'' s'' f → s''.1 0 = c → (c = 0 → r' = r) → (r' = 0 ∨ r' = 1) → Q (.inl (some (.int (iI r')))) J2) : aw_W G mM_add (d + 30) Q 0 [some (.ref b), some (.int (iI i)), some (.int (iI m)), some (.int (iI e)), none, none, none] [] J kc ks := by
  have hl := fun i1 i2 w hw => ((hI.1.2.2.2.2.2.2.2.1 i i1 i2).2.2.1 w hw).1
  refine lw_use (Q1 := fun oc s'' => ∃ r', oc = .inl (some (.int (iI r'))) ∧ s''.1 0 = c ∧ (c = 0 → r' = r) ∧ (r' = 0 ∨ r' = 1) ∧ cr_eq s' s'') h (mo_add (d := d + 29) hi hm he hI.1.1 hl (fun q => ?_) (fun q1 q2 => ?_) (fun q1 q2 a k hk => ?_)) (fun oc s'' J' p1 p2 ⟨r', p3, p4, p5, p6, p7⟩ => by rw [p3]; exact hq r' s'' J' (h.rf htg p1 p2 p7) p4 p5 p6)
  · rcases hr with ⟨e1, e2, e3⟩ | ⟨e2, _⟩
    · exact ⟨0, rfl, e1.symm, fun e => absurd (e1.symm.trans e) (by decide), Or.inl rfl, by rw [e3]; exact cr_eq.uz s 1⟩
    · exact absurd e2 q
  · rcases hr with ⟨e1, e2, e3⟩ | ⟨e2, ⟨e3, e4, e5⟩ | ⟨e3, _⟩⟩
    · exact absurd q1 e2
    · exact ⟨0, rfl, e3.symm, fun e => absurd (e3.symm.trans e) (by decide), Or.inl rfl, by rw [e5]; exact ⟨rfl, rfl, fun _ _ => rfl, rfl⟩⟩
    · omega
  · have hb := hl q1.1.1 q1.1.2 e he
    rcases hr with ⟨e1, e2, e3⟩ | ⟨e2, ⟨e3, e4, e5⟩ | ⟨e3, e4⟩⟩
    · exact absurd q1 e2
    · omega
    · refine mo_add_e (s := mo_uz (mo_uz s 0 0) 0 0) (d := d + 29) (by have := hI.1.1; omega) hm hb hk (fun q => ?_) (fun q => ?_)
      · rcases e4 with ⟨f1, f2, f3, f4⟩ | ⟨f1, f2, f3, f4⟩
        · exact ⟨0, rfl, f1.symm, fun _ => f2.symm, Or.inl rfl, by rw [f4]; exact ⟨rfl, rfl, fun _ _ => rfl, rfl⟩⟩
        · exact absurd f3 q
      · rcases e4 with ⟨f1, f2, f3, f4⟩ | ⟨f1, f2, f3, f4⟩
        · exact absurd q f3
        · exact ⟨1, rfl, f1.symm, fun _ => f2.symm, Or.inr rfl, by rw [f4]; exact ⟨rfl, rfl, fun _ _ => rfl, rfl⟩⟩
-- filter
def lr_filter (s : mo_S) (i m : Int) (u v : Int64) (c : Int) (s' : mo_S) : Prop := (c = 1 ∧ ¬ ((0 ≤ i ∧ i < s.1 12) ∧ 0 ≤ m ∧ m ≤ 255) ∧ s' = s) ∨ (((0 ≤ i ∧ i < s.1 12) ∧ 0 ≤ m ∧ m ≤ 255) ∧ ((c = 2 ∧ 0 < s.2.1 13 i ∧ s' = s) ∨ (c = 0 ∧ s.2.1 13 i ≤ 0 ∧ s' = mo_ug (mo_ug (mo_uf (mo_uf s 17 i 1) 18 i m) 19 i u) 20 i v)))
theorem lc_filter {i m : Int} {u v : Int64} (htg : aw_tg G) (hkc : 40 ≤ kc) (hks : 400 ≤ ks) (h : LM G x b o ad J s s f) (hi : iB i) (hm : iB m) (hq : ∀ c s' J1, lr_filter s i m u v c s' → LM G x b o ad J1 s s' f → Q (.inl (some (.int (iI c)))) J1) : aw_W G mW_filter (d + 30) Q 0 [some (.ref x), some (.int (iI i)), some (.int (iI m)), some (.long u), none, some (.long v), none, none] [] J kc ks := by
  have h0 := h
  obtain ⟨hI, hg, y, z, h1, hP, hw, ho⟩ := h
  refine ww_filter (d := d + 29) (mc := 40) (ms := 400) (PV := fun J' => ∃ s', lr_filter s i m u v 0 s' ∧ LM G x b o ad J' s s' f) (P1 := fun J' => LM G x b o ad J' s s f ∧ lr_filter s i m u v 1 s) (P2 := fun J' => LM G x b o ad J' s s f ∧ lr_filter s i m u v 2 s) hkc hks ⟨_, h1.1.1⟩ (fun Q' hv' hx1 hx2 => ?_) (fun J' ⟨s', q1, q2⟩ => hq 0 s' J' q1 q2) (fun J' q => hq 1 s J' q.2 q.1) (fun J' q => hq 2 s J' q.2 q.1)
  refine cx_filter (d := d + 26) htg (by decide) (by decide) h1 hI.1.1 hI.s13 hi hm (fun q => hx1 J ⟨h0, Or.inl ⟨rfl, fun q2 => q ⟨q2.1, by omega⟩, rfl⟩⟩) (fun q1 q2 => hx2 J ⟨h0, Or.inr ⟨⟨q1.1, by omega⟩, Or.inl ⟨rfl, q2, rfl⟩⟩⟩) (fun q1 q2 J' q4 => hv' J' ⟨_, Or.inr ⟨⟨q1.1, by omega⟩, Or.inr ⟨rfl, q2, rfl⟩⟩, LM.cl (y := y) hP hw ho q4 (hI.filter q1.1.2) ?_⟩)
  exact (show cr_gb (mo_uf (mo_uf s 17 i 1) 18 i m) from (hg.uf (by decide)).uf hm)
theorem lm_filter {i m c : Int} {u v : Int64} (htg : aw_tg G) (h : LM G x b o ad J s s' f) (hI : Iv s) (hi : iB i) (hm : iB m) (hr : lr_filter s i m u v c s') (hq : ∀ s'' J2, LM G x b o ad J2 s'' s'' f → s''.1 0 = c → Q (.inl none) J2) : aw_W G mM_filter (d + 30) Q 0 [some (.ref b), some (.int (iI i)), some (.int (iI m)), some (.long u), none, some (.long v), none] [] J kc ks := by
  refine lw_use (Q1 := fun oc s'' => oc = .inl none ∧ s''.1 0 = c ∧ cr_eq s' s'') h (mo_filter (d := d + 29) hi hm hI.1.1 (fun q => ?_) (fun q1 q2 => ?_) (fun q1 q2 => ?_)) (fun oc s'' J' p1 p2 p3 => by rw [p3.1]; exact hq s'' J' (h.rf htg p1 p2 p3.2.2) p3.2.1)
  · rcases hr with ⟨e1, e2, e3⟩ | ⟨e2, _⟩
    · exact ⟨rfl, e1.symm, by rw [e3]; exact cr_eq.uz s 1⟩
    · exact absurd e2 q
  · rcases hr with ⟨e1, e2, e3⟩ | ⟨e2, ⟨e3, e4, e5⟩ | ⟨e3, e4, e5⟩⟩
    · exact absurd q1 e2
    · exact ⟨rfl, e3.symm, by rw [e5]; exact ⟨rfl, rfl, fun _ _ => rfl, rfl⟩⟩
    · omega
  · rcases hr with ⟨e1, e2, e3⟩ | ⟨e2, ⟨e3, e4, e5⟩ | ⟨e3, e4, e5⟩⟩
    · exact absurd q1 e2
    · omega
    · exact ⟨rfl, e3.symm, by rw [e5]; exact ⟨rfl, rfl, fun _ _ => rfl, rfl⟩⟩
end LW3
/-! the calls, one after the other: loader, applied, info, isA, look -/
section LW4
variable {G : aw_G} {J J1 J2 : aw_J} {d kc ks : Nat} {Q : aw_O → aw_J → Prop} {x b o : Nat} {ad : Nat → Nat} {s s' s'' : mo_S} {f : Nat → Int64}
-- loader
def lr_loader (s : mo_S) (i e c r : Int) : Prop := (c = 1 ∧ ¬ (0 ≤ i ∧ i < s.1 12)) ∨ (c = 0 ∧ (0 ≤ i ∧ i < s.1 12) ∧ ((¬ s.2.1 13 i = 1 ∧ r = -1) ∨ (s.2.1 13 i = 1 ∧ e = 1 ∧ r = s.2.1 21 (3 * i + 1)) ∨ (s.2.1 13 i = 1 ∧ e = 0 ∧ r = s.2.1 21 (3 * i + 2))))
theorem lc_loader {i e : Int} (htg : aw_tg G) (hkc : 40 ≤ kc) (hks : 400 ≤ ks) (h : LM G x b o ad J s s f) (hi : iB i) (he : e = 0 ∨ e = 1) (hq : ∀ c r J1 f', lr_loader s i e c r → LM G x b o ad J1 s s f' → (c = 0 → f' 0 = (iI r).toInt64) → Q (.inl (some (.int (iI c)))) J1) : aw_W G mW_loader (d + 30) Q 0 [some (.ref x), some (.int (iI i)), some (.int (iI e)), some (.ref o), none] [] J kc ks := by
  have h0 := h
  obtain ⟨hI, hg, y, z, h1, hP, hw, ho⟩ := h
  refine ww_loader (d := d + 29) (mc := 40) (ms := 400) (PV := fun r J' => J' = J ∧ lr_loader s i e 0 r) (P1 := fun J' => J' = J ∧ lr_loader s i e 1 0) hkc hks ⟨_, h1.1.1⟩ (fun Q' hv' hx1 => ?_) (fun r J' q => ?_) (fun J' q => by rw [q.1]; exact hq 1 0 J f q.2 h0 (fun e => absurd e (by decide)))
  · exact cx_loader (d := d + 27) (by decide) (by decide) h1 hI.1.1 hI.s13 (fun i i1 i2 => (hI.1.2.2.2.2.2.2.2.1 i i1 i2).2.2.2.2) hi he (fun q => hx1 J ⟨rfl, Or.inl ⟨rfl, q⟩⟩) (fun q1 q2 => hv' _ J ⟨rfl, Or.inr ⟨rfl, q1, Or.inl ⟨q2, rfl⟩⟩⟩) (fun q1 q2 q3 => hv' _ J ⟨rfl, Or.inr ⟨rfl, q1, Or.inr (Or.inl ⟨q2, q3, rfl⟩)⟩⟩) (fun q1 q2 q3 => hv' _ J ⟨rfl, Or.inr ⟨rfl, q1, Or.inr (Or.inr ⟨q2, q3, rfl⟩)⟩⟩)
  · rw [q.1]
    exact ⟨f, ho, hq 0 r _ _ q.2 (LM.ou htg h0) (fun _ => if_pos rfl)⟩
theorem lm_loader {i e c r : Int} (htg : aw_tg G) (h : LM G x b o ad J s s f) (hi : iB i) (he : e = 0 ∨ e = 1) (hr : lr_loader s i e c r) (hq : ∀ r' s'' J2, LM G x b o ad J2 s'' s'' f → s''.1 0 = c → (c = 0 → r' = r) → Q (.inl (some (.int (iI r')))) J2) : aw_W G mM_loader (d + 30) Q 0 [some (.ref b), some (.int (iI i)), some (.int (iI e))] [] J kc ks := by
  refine lw_use (Q1 := fun oc s'' => ∃ r', oc = .inl (some (.int (iI r'))) ∧ s''.1 0 = c ∧ (c = 0 → r' = r) ∧ cr_eq s s'') h (mo_loader (d := d + 29) hi he h.1.1.1 (fun q => ?_) (fun q1 q2 => ?_) (fun q1 q2 q3 => ?_) (fun q1 q2 q3 => ?_)) (fun oc s'' J' p1 p2 ⟨r', p3, p4, p5, p6⟩ => by rw [p3]; exact hq r' s'' J' (h.rf htg p1 p2 p6) p4 p5)
  · rcases hr with ⟨e1, e2⟩ | ⟨e1, e2, _⟩
    · exact ⟨0, rfl, e1.symm, fun e => absurd (e1.symm.trans e) (by decide), cr_eq.uz s 1⟩
    · exact absurd e2 q
  · rcases hr with ⟨e1, e2⟩ | ⟨e1, e2, ⟨e3, e4⟩ | ⟨e3, _⟩ | ⟨e3, _⟩⟩
    · exact absurd q1 e2
    · exact ⟨_, rfl, e1.symm, fun _ => e4.symm, cr_eq.uz s 0⟩
    · exact absurd e3 q2
    · exact absurd e3 q2
  · rcases hr with ⟨e1, e2⟩ | ⟨e1, e2, ⟨e3, e4⟩ | ⟨e3, e4, e5⟩ | ⟨e3, e4, e5⟩⟩
    · exact absurd q1 e2
    · exact absurd q2 e3
    · exact ⟨_, rfl, e1.symm, fun _ => e5.symm, cr_eq.uz s 0⟩
    · omega
  · rcases hr with ⟨e1, e2⟩ | ⟨e1, e2, ⟨e3, e4⟩ | ⟨e3, e4, e5⟩ | ⟨e3, e4, e5⟩⟩
    · exact absurd q1 e2
    · exact absurd q2 e3
    · omega
    · exact ⟨_, rfl, e1.symm, fun _ => e5.symm, cr_eq.uz s 0⟩
-- applied
def lr_applied (s : mo_S) (i j c r : Int) : Prop := (c = 1 ∧ ¬ (0 ≤ i ∧ i < s.1 12)) ∨ (c = 0 ∧ (0 ≤ i ∧ i < s.1 12) ∧ ((¬ (0 ≤ j ∧ j < s.2.1 23 i) ∧ r = -1) ∨ ((0 ≤ j ∧ j < s.2.1 23 i) ∧ r = s.2.1 22 (8 * i + j))))
theorem lc_applied {i j : Int} (htg : aw_tg G) (hkc : 40 ≤ kc) (hks : 400 ≤ ks) (h : LM G x b o ad J s s f) (hi : iB i) (hj : iB j) (hq : ∀ c r J1 f', lr_applied s i j c r → LM G x b o ad J1 s s f' → (c = 0 → f' 0 = (iI r).toInt64) → Q (.inl (some (.int (iI c)))) J1) : aw_W G mW_applied (d + 30) Q 0 [some (.ref x), some (.int (iI i)), some (.int (iI j)), some (.ref o), none] [] J kc ks := by
  have h0 := h
  obtain ⟨hI, hg, y, z, h1, hP, hw, ho⟩ := h
  refine ww_applied (d := d + 29) (mc := 40) (ms := 400) (PV := fun r J' => J' = J ∧ lr_applied s i j 0 r) (P1 := fun J' => J' = J ∧ lr_applied s i j 1 0) hkc hks ⟨_, h1.1.1⟩ (fun Q' hv' hx1 => ?_) (fun r J' q => ?_) (fun J' q => by rw [q.1]; exact hq 1 0 J f q.2 h0 (fun e => absurd e (by decide)))
  · exact cx_applied (d := d + 27) (by decide) (by decide) h1 hI.1.1 hI.s13 (fun i i1 i2 k k1 k2 => ((hI.1.2.2.2.2.2.2.2.1 i i1 i2).2.2.2.1.2 k k1 k2).1) hi hj (fun q => hx1 J ⟨rfl, Or.inl ⟨rfl, q⟩⟩) (fun q1 q2 => hv' _ J ⟨rfl, Or.inr ⟨rfl, q1, Or.inl ⟨q2, rfl⟩⟩⟩) (fun q1 q2 => hv' _ J ⟨rfl, Or.inr ⟨rfl, q1, Or.inr ⟨q2, rfl⟩⟩⟩)
  · rw [q.1]
    exact ⟨f, ho, hq 0 r _ _ q.2 (LM.ou htg h0) (fun _ => if_pos rfl)⟩
theorem lm_applied {i j c r : Int} (htg : aw_tg G) (h : LM G x b o ad J s s f) (hi : iB i) (hj : iB j) (hr : lr_applied s i j c r) (hq : ∀ r' s'' J2, LM G x b o ad J2 s'' s'' f → s''.1 0 = c → (c = 0 → r' = r) → Q (.inl (some (.int (iI r')))) J2) : aw_W G mM_applied (d + 30) Q 0 [some (.ref b), some (.int (iI i)), some (.int (iI j))] [] J kc ks := by
  refine lw_use (Q1 := fun oc s'' => ∃ r', oc = .inl (some (.int (iI r'))) ∧ s''.1 0 = c ∧ (c = 0 → r' = r) ∧ cr_eq s s'') h (mo_applied (d := d + 29) hi hj h.1.1.1 (fun q => ((h.1.1.2.2.2.2.2.2.2.1 i q.1 q.2).2.2.2.1.1).2) (fun q => ?_) (fun q1 q2 => ?_) (fun q1 q2 => ?_)) (fun oc s'' J' p1 p2 ⟨r', p3, p4, p5, p6⟩ => by rw [p3]; exact hq r' s'' J' (h.rf htg p1 p2 p6) p4 p5)
  · rcases hr with ⟨e1, e2⟩ | ⟨e1, e2, _⟩
    · exact ⟨0, rfl, e1.symm, fun e => absurd (e1.symm.trans e) (by decide), cr_eq.uz s 1⟩
    · exact absurd e2 q
  · rcases hr with ⟨e1, e2⟩ | ⟨e1, e2, ⟨e3, e4⟩ | ⟨e3, e4⟩⟩
    · exact absurd q1 e2
    · exact ⟨_, rfl, e1.symm, fun _ => e4.symm, cr_eq.uz s 0⟩
    · exact absurd e3 q2
  · rcases hr with ⟨e1, e2⟩ | ⟨e1, e2, ⟨e3, e4⟩ | ⟨e3, e4⟩⟩
    · exact absurd q1 e2
    · exact absurd q2 e3
    · exact ⟨_, rfl, e1.symm, fun _ => e4.symm, cr_eq.uz s 0⟩
-- info
def lr_info (s : mo_S) (i w c r : Int) : Prop := (c = 1 ∧ ¬ ((0 ≤ i ∧ i < s.1 24) ∧ 0 ≤ w ∧ w ≤ 3)) ∨ (c = 0 ∧ ((0 ≤ i ∧ i < s.1 24) ∧ 0 ≤ w ∧ w ≤ 3) ∧ (w = 0 → r = s.2.1 25 i) ∧ (w = 1 → r = s.2.1 26 i) ∧ (w = 2 → r = s.2.1 27 i) ∧ (w = 3 → r = s.2.1 28 i))
theorem lc_info {i w : Int} (htg : aw_tg G) (hkc : 40 ≤ kc) (hks : 400 ≤ ks) (h : LM G x b o ad J s s f) (hi : iB i) (hw0 : iB w) (hq : ∀ c r J1 f', lr_info s i w c r → LM G x b o ad J1 s s f' → (c = 0 → f' 0 = (iI r).toInt64) → Q (.inl (some (.int (iI c)))) J1) : aw_W G mW_info (d + 30) Q 0 [some (.ref x), some (.int (iI i)), some (.int (iI w)), some (.ref o), none] [] J kc ks := by
  have h0 := h
  obtain ⟨hI, hg, y, z, h1, hP, hw, ho⟩ := h
  refine ww_info (d := d + 29) (mc := 40) (ms := 400) (PV := fun r J' => J' = J ∧ lr_info s i w 0 r) (P1 := fun J' => J' = J ∧ lr_info s i w 1 0) hkc hks ⟨_, h1.1.1⟩ (fun Q' hv' hx1 => ?_) (fun r J' q => ?_) (fun J' q => by rw [q.1]; exact hq 1 0 J f q.2 h0 (fun e => absurd e (by decide)))
  · exact cx_info (d := d + 27) (by decide) (by decide) h1 hI.1 hi hw0 (fun q => hx1 J ⟨rfl, Or.inl ⟨rfl, q⟩⟩) (fun q v v0 v1 v2 v3 => hv' v J ⟨rfl, Or.inr ⟨rfl, q, v0, v1, v2, v3⟩⟩)
  · rw [q.1]
    exact ⟨f, ho, hq 0 r _ _ q.2 (LM.ou htg h0) (fun _ => if_pos rfl)⟩
theorem lm_info {i w c r : Int} (htg : aw_tg G) (h : LM G x b o ad J s s f) (hi : iB i) (hw0 : iB w) (hr : lr_info s i w c r) (hq : ∀ r' s'' J2, LM G x b o ad J2 s'' s'' f → s''.1 0 = c → (c = 0 → r' = r) → Q (.inl (some (.int (iI r')))) J2) : aw_W G mM_info (d + 30) Q 0 [some (.ref b), some (.int (iI i)), some (.int (iI w))] [] J kc ks := by
  refine lw_use (Q1 := fun oc s'' => ∃ r', oc = .inl (some (.int (iI r'))) ∧ s''.1 0 = c ∧ (c = 0 → r' = r) ∧ cr_eq s s'') h (mo_info (d := d + 29) hi hw0 h.1.1.2.1 (fun q => ?_) (fun q1 q2 => ?_) (fun q1 q2 => ?_) (fun q1 q2 => ?_) (fun q1 q2 => ?_)) (fun oc s'' J' p1 p2 ⟨r', p3, p4, p5, p6⟩ => by rw [p3]; exact hq r' s'' J' (h.rf htg p1 p2 p6) p4 p5)
  · rcases hr with ⟨e1, e2⟩ | ⟨e1, e2, _⟩
    · exact ⟨0, rfl, e1.symm, fun e => absurd (e1.symm.trans e) (by decide), cr_eq.uz s 1⟩
    · exact absurd e2 q
  all_goals
    rcases hr with ⟨e1, e2⟩ | ⟨e1, e2, v0, v1, v2, v3⟩
    · exact absurd ⟨q1, by omega⟩ e2
    · first
        | exact ⟨_, rfl, e1.symm, fun _ => (v0 q2).symm, cr_eq.uz s 0⟩
        | exact ⟨_, rfl, e1.symm, fun _ => (v1 q2).symm, cr_eq.uz s 0⟩
        | exact ⟨_, rfl, e1.symm, fun _ => (v2 q2).symm, cr_eq.uz s 0⟩
        | exact ⟨_, rfl, e1.symm, fun _ => (v3 q2).symm, cr_eq.uz s 0⟩
-- isA
def lr_isA (s : mo_S) (i j c r : Int) : Prop := (c = 1 ∧ ¬ ((0 ≤ i ∧ i < s.1 24) ∧ 0 ≤ j ∧ j < s.1 24)) ∨ (c = 0 ∧ ((0 ≤ i ∧ i < s.1 24) ∧ 0 ≤ j ∧ j < s.1 24) ∧ ((mo_dsc (s.2.1 28) i j ∧ r = 1) ∨ (¬ mo_dsc (s.2.1 28) i j ∧ r = 0)))
theorem lc_isA {i j : Int} (htg : aw_tg G) (hkc : 40 ≤ kc) (hks : 400 ≤ ks) (h : LM G x b o ad J s s f) (hi : iB i) (hj : iB j) (hq : ∀ c r J1 f', lr_isA s i j c r → LM G x b o ad J1 s s f' → (c = 0 → (r = 0 ∨ r = 1) ∧ f' 0 = (if r = 0 then 0 else 1)) → Q (.inl (some (.int (iI c)))) J1) : aw_W G mW_isA (d + 30) Q 0 [some (.ref x), some (.int (iI i)), some (.int (iI j)), some (.ref o), none] [] J kc ks := by
  have h0 := h
  obtain ⟨hI, hg, y, z, h1, hP, hw, ho⟩ := h
  refine ww_isA (d := d + 29) (mc := 40) (ms := 400) (PV := fun r J' => J' = J ∧ (r = 0 ∨ r = 1) ∧ lr_isA s i j 0 r) (P1 := fun J' => J' = J ∧ lr_isA s i j 1 0) hkc hks ⟨_, h1.1.1⟩ (fun Q' hv' hx1 => ?_) (fun r J' q => ?_) (fun J' q => by rw [q.1]; exact hq 1 0 J f q.2 h0 (fun e => absurd e (by decide)))
  · exact cx_isA (d := d + 27) (by decide) (by decide) h1 hI.1 hi hj (fun q => hx1 J ⟨rfl, Or.inl ⟨rfl, q⟩⟩) (fun q1 q2 => hv' 1 J ⟨rfl, Or.inr rfl, Or.inr ⟨rfl, q1, Or.inl ⟨q2, rfl⟩⟩⟩) (fun q1 q2 => hv' 0 J ⟨rfl, Or.inl rfl, Or.inr ⟨rfl, q1, Or.inr ⟨q2, rfl⟩⟩⟩)
  · rw [q.1]
    exact ⟨q.2.1, f, ho, hq 0 r _ _ q.2.2 (LM.ou htg h0) (fun _ => ⟨q.2.1, if_pos rfl⟩)⟩
theorem lm_isA {i j c r : Int} (htg : aw_tg G) (h : LM G x b o ad J s s f) (hi : iB i) (hj : iB j) (hr : lr_isA s i j c r) (hq : ∀ r' s'' J2, LM G x b o ad J2 s'' s'' f → s''.1 0 = c → (c = 0 → r' = r) → (r' = 0 ∨ r' = 1) → Q (.inl (some (.int (iI r')))) J2) : aw_W G mM_isA (d + 30) Q 0 [some (.ref b), some (.int (iI i)), some (.int (iI j))] [] J kc ks := by
  refine lw_use (Q1 := fun oc s'' => ∃ r', oc = .inl (some (.int (iI r'))) ∧ s''.1 0 = c ∧ (c = 0 → r' = r) ∧ (r' = 0 ∨ r' = 1) ∧ cr_eq s s'') h (mo_isa (d := d + 29) hi hj h.1.1.2.1.2 h.1.1.2.2.2.2.1 (fun q => ?_) (fun q1 q2 => ?_) (fun q1 q2 => ?_)) (fun oc s'' J' p1 p2 ⟨r', p3, p4, p5, p6, p7⟩ => by rw [p3]; exact hq r' s'' J' (h.rf htg p1 p2 p7) p4 p5 p6)
  · rcases hr with ⟨e1, e2⟩ | ⟨e1, e2, _⟩
    · exact ⟨0, rfl, e1.symm, fun e => absurd (e1.symm.trans e) (by decide), Or.inl rfl, cr_eq.uz s 1⟩
    · exact absurd e2 q
  · rcases hr with ⟨e1, e2⟩ | ⟨e1, e2, ⟨e3, e4⟩ | ⟨e3, e4⟩⟩
    · exact absurd q1 e2
    · exact ⟨1, rfl, e1.symm, fun _ => e4.symm, Or.inr rfl, cr_eq.uz s 0⟩
    · exact absurd q2 e3
  · rcases hr with ⟨e1, e2⟩ | ⟨e1, e2, ⟨e3, e4⟩ | ⟨e3, e4⟩⟩
    · exact absurd q1 e2
    · exact absurd e3 q2
    · exact ⟨0, rfl, e1.symm, fun _ => e4.symm, Or.inl rfl, cr_eq.uz s 0⟩
-- look
def lr_look (s : mo_S) (l w r : Int) : Prop := (¬ (((0 ≤ l ∧ l ≤ 40) ∧ s.2.1 5 l ≠ 0) ∧ 0 ≤ w ∧ w ≤ 3) ∧ r = -1) ∨ ((((0 ≤ l ∧ l ≤ 40) ∧ s.2.1 5 l ≠ 0) ∧ 0 ≤ w ∧ w ≤ 3) ∧ (w = 0 → r = s.2.1 6 l) ∧ (w = 1 → r = s.2.1 7 l) ∧ (w = 2 → r = mo_hold s l) ∧ (w = 3 → r = mo_dc (s.2.1 26) l (s.1 24 - 8).toNat))
theorem lc_look {l w : Int} (h : LM G x b o ad J s s f) (hl : iB l) (hw0 : iB w) (hq : ∀ r, lr_look s l w r → Q (.inl (some (.int (iI r)))) J) : aw_W G mT_look (d + 30) Q 0 [some (.ref x), some (.int (iI l)), some (.int (iI w)), none] [] J kc ks := by
  obtain ⟨hI, hg, y, z, h1, hP, hw, ho⟩ := h
  exact cx_look (d := d + 29) h1 hI.1 hl hw0 (fun q => hq (-1) (Or.inl ⟨q, rfl⟩)) (fun q r v0 v1 v2 v3 => hq r (Or.inr ⟨q, v0, v1, v2, v3⟩))
theorem lm_look {l w r : Int} (htg : aw_tg G) (h : LM G x b o ad J s s f) (hl : iB l) (hw0 : iB w) (hr : lr_look s l w r) (hq : ∀ s'' J2, LM G x b o ad J2 s'' s'' f → Q (.inl (some (.int (iI r)))) J2) : aw_W G mM_look (d + 30) Q 0 [some (.ref b), some (.int (iI l)), some (.int (iI w)), none, none] [] J kc ks := by
  refine lw_use (Q1 := fun oc s'' => oc = .inl (some (.int (iI r))) ∧ cr_eq s s'') h (mo_look (d := d + 29) hl hw0 h.1.1.2.1 h.1.1.1 (fun q => ?_) (fun q r' v0 v1 v2 v3 => ?_)) (fun oc s'' J' p1 p2 p3 => by rw [p3.1]; exact hq s'' J' (h.rf htg p1 p2 p3.2))
  · rcases hr with ⟨e1, e2⟩ | ⟨e1, _⟩
    · exact ⟨by rw [e2], cr_eq.uz s 0⟩
    · exact absurd e1 q
  · rcases hr with ⟨e1, e2⟩ | ⟨e1, u0, u1, u2, u3⟩
    · exact absurd q e1
    · have e : r' = r := by
        have hh : mo_hold (mo_uz s 0 0) l = mo_hold s l := mo_hold_cg (s := s) (s' := mo_uz s 0 0) rfl rfl rfl rfl rfl l
        have : w = 0 ∨ w = 1 ∨ w = 2 ∨ w = 3 := by omega
        rcases this with m | m | m | m
        · rw [v0 m, u0 m]
        · rw [v1 m, u1 m]
        · rw [v2 m, u2 m, hh]
        · rw [v3 m, u3 m]
      exact ⟨by rw [e], cr_eq.uz s 0⟩
end LW4
/-! the calls, one after the other: lock, release, load, apply -/
section LW5
variable {G : aw_G} {J J1 J2 : aw_J} {d kc ks : Nat} {Q : aw_O → aw_J → Prop} {x b o : Nat} {ad : Nat → Nat} {s s' s'' : mo_S} {f : Nat → Int64}
-- lock
theorem mo_cpy_f (n : Nat) (s : mo_S) (f l : Int) : (mo_cpy s f l n).1 = s.1 := (mo_cpy_1 s f l n).1
theorem mo_dR_f {f n p l : Int} (h : mo_dR s f n p l s') : s'.1 = s.1 := by
  rcases h with ⟨_, _, h⟩ | ⟨_, _, _, _, h⟩ | ⟨_, _, _, h⟩
  · rw [h]
  · rw [h]
  · rw [h]
    exact mo_cpy_f _ _ _ _
theorem mo_fR_f {c p l : Int} (h : mo_fR s c p l s') : s'.1 = s.1 := by
  rcases h with ⟨_, _, h⟩ | ⟨_, _, _, _, h⟩ | ⟨_, _, _, h⟩
  · rw [h]
  · rw [h]
  · rw [h]
    rfl
def lr_lock (s : mo_S) (c k r : Int) (s' : mo_S) : Prop := (k = 1 ∧ ¬ (0 ≤ c ∧ c < s.1 12) ∧ s' = s) ∨ ((0 ≤ c ∧ c < s.1 12) ∧ ((k = 2 ∧ ¬ (s.2.1 13 c ≤ 0 ∧ s.2.1 13 (s.2.1 14 c) = 1) ∧ s' = s) ∨ ((s.2.1 13 c ≤ 0 ∧ s.2.1 13 (s.2.1 14 c) = 1) ∧ ((k = 3 ∧ mo_fr (s.2.1 5) 40 < 3 ∧ s' = s) ∨ (k = 0 ∧ 3 ≤ mo_fr (s.2.1 5) 40 ∧ ∃ e s1 u s2 s3, mo_dR (mo_uz s 0 0) (8 * c + 4 * 1) (s.2.1 16 (2 * c + 1)) (s.2.1 21 (3 * s.2.1 14 c + 1)) e s1 ∧ mo_fR s1 c e u s2 ∧ mo_dR s2 (8 * c + 4 * 0) (s.2.1 16 (2 * c + 0)) e r s3 ∧ s' = mo_lkd s3 c e u r)))))
theorem lc_lock {c : Int} (htg : aw_tg G) (hkc : 40 ≤ kc) (hks : 400 ≤ ks) (h : LM G x b o ad J s s f) (hc : iB c) (hq : ∀ k r s' J1 f', lr_lock s c k r s' → LM G x b o ad J1 s s' f' → (k = 0 → f' 0 = (iI r).toInt64) → Q (.inl (some (.int (iI k)))) J1) : aw_W G mW_lock (d + 30) Q 0 [some (.ref x), some (.int (iI c)), some (.ref o), none] [] J kc ks := by
  have h0 := h
  obtain ⟨hI, hg, y, z, h1, hP, hw, ho⟩ := h.uz
  refine ww_lock (d := d + 29) (mc := 40) (ms := 400) (PV := fun r J' => ∃ s', lr_lock s c 0 r s' ∧ LM G x b o ad J' s s' f) (P1 := fun J' => J' = J ∧ lr_lock s c 1 0 s) (P2 := fun J' => J' = J ∧ lr_lock s c 2 0 s) (P3 := fun J' => J' = J ∧ lr_lock s c 3 0 s) hkc hks ⟨_, h1.1.1⟩ (fun Q' hv' hx1 hx2 hx3 => ?_) (fun r J' q => ?_) (fun J' q => by rw [q.1]; exact hq 1 0 s J f q.2 h0 (fun e => absurd e (by decide))) (fun J' q => by rw [q.1]; exact hq 2 0 s J f q.2 h0 (fun e => absurd e (by decide))) (fun J' q => by rw [q.1]; exact hq 3 0 s J f q.2 h0 (fun e => absurd e (by decide)))
  · refine cx_lock (d := d + 23) htg (by decide) (by decide) h1 hI.1 hg hc (fun q => hx1 J ⟨rfl, Or.inl ⟨rfl, q, rfl⟩⟩) (fun q1 q2 => hx2 J ⟨rfl, Or.inr ⟨q1, Or.inl ⟨rfl, q2, rfl⟩⟩⟩) (fun q1 q2 q3 => hx3 J ⟨rfl, Or.inr ⟨q1, Or.inr ⟨q2, Or.inl ⟨rfl, q3, rfl⟩⟩⟩⟩) (fun q1 q2 q3 e s1 u s2 l s3 d1 d2 d3 J' q4 => hv' l J' ⟨_, Or.inr ⟨q1, Or.inr ⟨q2, Or.inr ⟨rfl, q3, e, s1, u, s2, s3, d1, d2, d3, rfl⟩⟩⟩, LM.cm hP hw ho q4 ?_⟩)
    have z0 := hI.1.2.2.2.2.2.2.2.2.2.2.2
    have c1 : 1 ≤ c := by
      by_cases e0 : c = 0
      · have := q2.1
        rw [e0] at this
        omega
      · omega
    have p1 := (hI.1.2.2.2.2.2.2.2.1 c q1.1 q1.2).2.1 c1
    exact Iv.lock hI hg ⟨c1, q1.2⟩ q2.1 ((hI.1.2.2.2.2.2.2.2.1 _ p1.1 (by have := q1.2; omega)).2.2.2.2 q2.2 1 (by decide) (by decide)) d1 d2 d3
  · obtain ⟨s', q1, q2⟩ := q
    have q3 := q2.out
    exact ⟨f, q3, hq 0 r s' _ _ q1 (LM.ou htg q2) (fun _ => if_pos rfl)⟩
theorem lm_lock {c k r : Int} (htg : aw_tg G) (h : LM G x b o ad J s s' f) (hI : Iv s) (hc : iB c) (hr : lr_lock s c k r s') (hq : ∀ r' s'' J2, LM G x b o ad J2 s'' s'' f → s''.1 0 = k → (k = 0 → r' = r) → Q (.inl (some (.int (iI r')))) J2) : aw_W G mM_lock (d + 30) Q 0 [some (.ref b), some (.int (iI c)), none, none, none] [] J kc ks := by
  have z0 := hI.1.2.2.2.2.2.2.2.2.2.2.2
  have i12 := hI.1.1
  refine lw_use (Q1 := fun oc s'' => ∃ r', oc = .inl (some (.int (iI r'))) ∧ s''.1 0 = k ∧ (k = 0 → r' = r) ∧ cr_eq s' s'') h (mo_lock (d := d + 27) hc hI.1.1 (fun c1 c2 c3 => ?_) hI.1.2.2.1 (fun c1 c2 w hw => ?_) (fun q => ?_) (fun q1 q2 => ?_) (fun q1 q2 q3 => ?_) (fun q1 q2 q3 e s1 u s2 l s3 d1 d2 d3 => ?_)) (fun oc s'' J' p1 p2 ⟨r', p3, p4, p5, p6⟩ => by rw [p3]; exact hq r' s'' J' (h.rf htg p1 p2 p6) p4 p5)
  · have e0 : c ≠ 0 := fun e0 => by rw [e0] at c3; omega
    have := (hI.1.2.2.2.2.2.2.2.1 c c1 c2).2.1 (by omega)
    omega
  · exact (hI.1.2.2.2.2.2.2.2.1 c c1 c2).2.2.1 w hw
  · rcases hr with ⟨e1, e2, e3⟩ | ⟨e2, _⟩
    · exact ⟨0, rfl, e1.symm, fun e => absurd (e1.symm.trans e) (by decide), by rw [e3]; exact cr_eq.uz s 1⟩
    · exact absurd e2 q
  · rcases hr with ⟨e1, e2, e3⟩ | ⟨e2, ⟨e3, e4, e5⟩ | ⟨e3, _⟩⟩
    · exact absurd q1 e2
    · exact ⟨0, rfl, e3.symm, fun e => absurd (e3.symm.trans e) (by decide), by rw [e5]; exact cr_eq.uz s 2⟩
    · exact absurd e3 q2
  · rcases hr with ⟨e1, e2, e3⟩ | ⟨e2, ⟨e3, e4, e5⟩ | ⟨e3, ⟨e4, e5, e6⟩ | ⟨e4, e5, _⟩⟩⟩
    · exact absurd q1 e2
    · exact absurd q2 e4
    · exact ⟨0, rfl, e4.symm, fun e => absurd (e4.symm.trans e) (by decide), by rw [e6]; exact cr_eq.uz s 3⟩
    · omega
  · rcases hr with ⟨e1, e2, e3⟩ | ⟨e2, ⟨e3, e4, e5⟩ | ⟨e3, ⟨e4, e5, e6⟩ | ⟨e4, e5, e', s1', u', s2', s3', f1, f2, f3, f4⟩⟩⟩
    · exact absurd q1 e2
    · exact absurd q2 e4
    · omega
    · obtain ⟨g1, g2⟩ := mo_dR_u d1 f1
      subst g1 g2
      obtain ⟨g1, g2⟩ := mo_fR_u d2 f2
      subst g1 g2
      obtain ⟨g1, g2⟩ := mo_dR_u d3 f3
      subst g1 g2
      refine ⟨l, rfl, ?_, fun _ => rfl, by rw [f4]; exact ⟨rfl, rfl, fun _ _ => rfl, rfl⟩⟩
      have k1 := mo_dR_f d1
      have k2 := mo_fR_f d2
      have k3 := mo_dR_f d3
      have : s3.1 = (mo_uz s 0 0).1 := k3.trans (k2.trans k1)
      exact (congrFun this 0).trans e4.symm
-- release
def lr_release (s : mo_S) (c k r : Int) (s' : mo_S) : Prop := (k = 1 ∧ ¬ (1 ≤ c ∧ c < s.1 12) ∧ s' = s) ∨ ((1 ≤ c ∧ c < s.1 12) ∧ ((k = 2 ∧ (s.2.1 13 c = 2 ∨ (∃ i, 1 ≤ i ∧ i < s.1 12 ∧ s.2.1 14 i = c ∧ ¬ s.2.1 13 i = 2)) ∧ s' = s) ∨ (k = 0 ∧ ¬ s.2.1 13 c = 2 ∧ ¬ (∃ i, 1 ≤ i ∧ i < s.1 12 ∧ s.2.1 14 i = c ∧ ¬ s.2.1 13 i = 2) ∧ ∃ D, mo_rv (mo_uf (mo_uz s 0 0) 13 c 2) D ∧ mo_nm (mo_rml (mo_uf (mo_uz s 0 0) 13 c 2) D) ∧ r = (D.length : Int) ∧ s' = mo_rml (mo_uf (mo_uz s 0 0) 13 c 2) D)))
theorem lc_release {c : Int} (htg : aw_tg G) (hkc : 40 ≤ kc) (hks : 400 ≤ ks) (h : LM G x b o ad J s s f) (hc : iB c) (hq : ∀ k r s' J1 f', lr_release s c k r s' → LM G x b o ad J1 s s' f' → (k = 0 → f' 0 = (iI r).toInt64) → Q (.inl (some (.int (iI k)))) J1) : aw_W G mW_release (d + 30) Q 0 [some (.ref x), some (.int (iI c)), some (.ref o), none] [] J kc ks := by
  have h0 := h
  obtain ⟨hI, hg, y, z, h1, hP, hw, ho⟩ := h.uz
  have hs := hI.1.2.2.2.2.2.2.2.1
  refine ww_release (d := d + 29) (mc := 40) (ms := 400) (PV := fun r J' => ∃ s', lr_release s c 0 r s' ∧ LM G x b o ad J' s s' f) (P1 := fun J' => J' = J ∧ lr_release s c 1 0 s) (P2 := fun J' => J' = J ∧ lr_release s c 2 0 s) hkc hks ⟨_, h1.1.1⟩ (fun Q' hv' hx1 hx2 => ?_) (fun r J' q => ?_) (fun J' q => by rw [q.1]; exact hq 1 0 s J f q.2 h0 (fun e => absurd e (by decide))) (fun J' q => by rw [q.1]; exact hq 2 0 s J f q.2 h0 (fun e => absurd e (by decide)))
  · refine cx_release (d := d + 27) htg (by decide) (by decide) h1 hI.1.1 hI.s13 (fun i i1 i2 => (hs i (by omega) i2).2.1 i1) (fun i i1 i2 => (hs i i1 i2).2.2.2.2) hI.1.2.2.2.2.2.2.1 hI.1.2.2.2.2.2.1.1 (fun t t1 t2 t3 => ?_) hI.2.1 hc (fun q => hx1 J ⟨rfl, Or.inl ⟨rfl, q, rfl⟩⟩) (fun q1 q2 => hx2 J ⟨rfl, Or.inr ⟨q1, Or.inl ⟨rfl, q2, rfl⟩⟩⟩) (fun q1 q2 q3 D v n J' q4 => hv' _ J' ⟨_, Or.inr ⟨q1, Or.inr ⟨rfl, q2, q3, D, v, n, rfl, rfl⟩⟩, LM.cm hP hw ho q4 (hI.release q1 v n)⟩)
    have := (hI.1.2.2.2.2.2.2.2.2.1 t t1 t2).2.2
    by_cases e : t < 8
    · have := this e
      omega
    · omega
  · obtain ⟨s', q1, q2⟩ := q
    have q3 := q2.out
    exact ⟨f, q3, hq 0 r s' _ _ q1 (LM.ou htg q2) (fun _ => if_pos rfl)⟩
theorem lm_release {c k r : Int} (htg : aw_tg G) (h : LM G x b o ad J s s' f) (hI : Iv s) (hc : iB c) (hr : lr_release s c k r s') (hq : ∀ r' s'' J2, LM G x b o ad J2 s'' s'' f → s''.1 0 = k → (k = 0 → r' = r) → Q (.inl (some (.int (iI r')))) J2) : aw_W G mM_release (d + 30) Q 0 [some (.ref b), some (.int (iI c)), none, none] [] J kc ks := by
  refine lw_use (Q1 := fun oc s'' => ∃ r', oc = .inl (some (.int (iI r'))) ∧ s''.1 0 = k ∧ (k = 0 → r' = r) ∧ cr_eq s' s'') h (mo_release (d := d + 28) hc hI.1.1 hI.1.2.1 (fun q => ?_) (fun q1 q2 => ?_) (fun q1 q2 q3 D v n => ?_)) (fun oc s'' J' p1 p2 ⟨r', p3, p4, p5, p6⟩ => by rw [p3]; exact hq r' s'' J' (h.rf htg p1 p2 p6) p4 p5)
  · rcases hr with ⟨e1, e2, e3⟩ | ⟨e2, _⟩
    · exact ⟨0, rfl, e1.symm, fun e => absurd (e1.symm.trans e) (by decide), by rw [e3]; exact cr_eq.uz s 1⟩
    · exact absurd e2 q
  · rcases hr with ⟨e1, e2, e3⟩ | ⟨e2, ⟨e3, e4, e5⟩ | ⟨e3, e4, e5, _⟩⟩
    · exact absurd q1 e2
    · exact ⟨0, rfl, e3.symm, fun e => absurd (e3.symm.trans e) (by decide), by rw [e5]; exact cr_eq.uz s 2⟩
    · rcases q2 with q2 | q2
      · exact absurd q2 e4
      · exact absurd q2 e5
  · rcases hr with ⟨e1, e2, e3⟩ | ⟨e2, ⟨e3, e4, e5⟩ | ⟨e3, e4, e5, D', v', n', e6, e7⟩⟩
    · exact absurd q1 e2
    · rcases e4 with e4 | e4
      · exact absurd e4 q2
      · exact absurd e4 q3
    · obtain ⟨g1, g2⟩ := mo_rml_eq v v' n n'
      refine ⟨_, rfl, ?_, fun _ => by rw [e6, g2], by rw [e7, g1]; exact ⟨rfl, rfl, fun _ _ => rfl, rfl⟩⟩
      exact (congrFun (mo_rml_o D _).1 0).trans e3.symm
-- load
theorem lx_ch {c : Int} (h : Iv s) (hc : 0 ≤ c ∧ c < s.1 12) (h13 : s.2.1 13 c = 1) : ∃ n, cr_ch s.2 n (s.2.1 21 (3 * c + 2)) ∧ mo_chn s.2 n (s.2.1 21 (3 * c + 2)) := by
  obtain ⟨n, hn⟩ := h.1.2.2.2.2.2.2.1 _ ((h.1.2.2.2.2.2.2.2.1 c hc.1 hc.2).2.2.2.2 h13 2 (by decide) (by decide))
  exact ⟨n, hn, cr_ch_chn h.1.2.2.1 n _ hn⟩
def lr_load (s : mo_S) (c m k v : Int) (s' : mo_S) : Prop := (k = 1 ∧ ¬ ((0 ≤ c ∧ c < s.1 12) ∧ 0 ≤ m ∧ m ≤ 63) ∧ s' = s) ∨ (((0 ≤ c ∧ c < s.1 12) ∧ 0 ≤ m ∧ m ≤ 63) ∧ ((k = 2 ∧ ¬ s.2.1 13 c = 1 ∧ s' = s) ∨ (s.2.1 13 c = 1 ∧ ∃ n r, (mo_chn s.2 n (s.2.1 21 (3 * c + 2)) ∧ mo_ph s.2 (s.1 24) n 8 [] (s.2.1 21 (3 * c + 2)) m r) ∧ s' = (mo_rs (mo_uz s 0 0) r).1 ∧ ((k = 3 ∧ (mo_rs (mo_uz s 0 0) r).2 = -1) ∨ (k = 4 ∧ (mo_rs (mo_uz s 0 0) r).2 = -2) ∨ (k = 0 ∧ 0 ≤ (mo_rs (mo_uz s 0 0) r).2 ∧ v = (mo_rs (mo_uz s 0 0) r).2)))))
theorem lc_load {c m : Int} (htg : aw_tg G) (hkc : 40 ≤ kc) (hks : 400 ≤ ks) (h : LM G x b o ad J s s f) (hc : iB c) (hm : iB m) (hq : ∀ k r s' J1 f', lr_load s c m k r s' → LM G x b o ad J1 s s' f' → (k = 0 → f' 0 = (iI r).toInt64) → Q (.inl (some (.int (iI k)))) J1) : aw_W G mW_load (d + 30) Q 0 [some (.ref x), some (.int (iI c)), some (.int (iI m)), some (.ref o), none] [] J kc ks := by
  have h0 := h
  obtain ⟨hI, hg, y, z, h1, hP, hw, ho⟩ := h.uz
  refine ww_load (d := d + 29) (mc := 40) (ms := 400) (PV := fun r J' => ∃ s', lr_load s c m 0 r s' ∧ LM G x b o ad J' s s' f) (P1 := fun J' => J' = J ∧ lr_load s c m 1 0 s) (P2 := fun J' => J' = J ∧ lr_load s c m 2 0 s) (P3 := fun J' => ∃ s', lr_load s c m 3 0 s' ∧ LM G x b o ad J' s s' f) (P4 := fun J' => ∃ s', lr_load s c m 4 0 s' ∧ LM G x b o ad J' s s' f) hkc hks ⟨_, h1.1.1⟩ (fun Q' hv' hx1 hx2 hx3 hx4 => ?_) (fun r J' q => ?_) (fun J' q => by rw [q.1]; exact hq 1 0 s J f q.2 h0 (fun e => absurd e (by decide))) (fun J' q => by rw [q.1]; exact hq 2 0 s J f q.2 h0 (fun e => absurd e (by decide))) (fun J' ⟨s', q1, q2⟩ => hq 3 0 s' J' f q1 q2 (fun e => absurd e (by decide))) (fun J' ⟨s', q1, q2⟩ => hq 4 0 s' J' f q1 q2 (fun e => absurd e (by decide)))
  · by_cases g : ((0 ≤ c ∧ c < s.1 12) ∧ 0 ≤ m ∧ m ≤ 63) ∧ s.2.1 13 c = 1
    · obtain ⟨n, n1, n2⟩ := lx_ch hI g.1.1 g.2
      obtain ⟨r, hr⟩ := mo_ph_ex (t := s.2) (N := s.1 24) 8 [] _ m n2
      have ivr := Iv.rs hI n1 g.1.2.1 hr
      exact cx_load (d := d + 6) (n := n) (r := r) htg (by decide) (by decide) h1 hI.1 hg hc hm (fun _ _ => ⟨n1, hr⟩) (fun q => hx1 J ⟨rfl, Or.inl ⟨rfl, q, rfl⟩⟩) (fun q1 q2 => hx2 J ⟨rfl, Or.inr ⟨q1, Or.inl ⟨rfl, q2, rfl⟩⟩⟩) (fun q1 q2 q3 J' q4 => hx3 J' ⟨_, Or.inr ⟨q1, Or.inr ⟨q2, n, r, ⟨n2, hr⟩, rfl, Or.inl ⟨rfl, q3⟩⟩⟩, LM.cm hP hw ho q4 ivr.1⟩) (fun q1 q2 q3 J' q4 => hx4 J' ⟨_, Or.inr ⟨q1, Or.inr ⟨q2, n, r, ⟨n2, hr⟩, rfl, Or.inr (Or.inl ⟨rfl, q3⟩)⟩⟩, LM.cm hP hw ho q4 ivr.1⟩) (fun q1 q2 q3 J' q4 => hv' _ J' ⟨_, Or.inr ⟨q1, Or.inr ⟨q2, n, r, ⟨n2, hr⟩, rfl, Or.inr (Or.inr ⟨rfl, q3, rfl⟩)⟩⟩, LM.cm hP hw ho q4 ivr.1⟩)
    · exact cx_load (d := d + 6) (n := 0) (r := (0, [])) htg (by decide) (by decide) h1 hI.1 hg hc hm (fun q1 q2 => absurd ⟨q1, q2⟩ g) (fun q => hx1 J ⟨rfl, Or.inl ⟨rfl, q, rfl⟩⟩) (fun q1 q2 => hx2 J ⟨rfl, Or.inr ⟨q1, Or.inl ⟨rfl, q2, rfl⟩⟩⟩) (fun q1 q2 => absurd ⟨q1, q2⟩ g) (fun q1 q2 => absurd ⟨q1, q2⟩ g) (fun q1 q2 => absurd ⟨q1, q2⟩ g)
  · obtain ⟨s', q1, q2⟩ := q
    have q3 := q2.out
    exact ⟨f, q3, hq 0 r s' _ _ q1 (LM.ou htg q2) (fun _ => if_pos rfl)⟩
theorem lm_load {c m k r : Int} (htg : aw_tg G) (h : LM G x b o ad J s s' f) (hI : Iv s) (hc : iB c) (hm : iB m) (hr : lr_load s c m k r s') (hq : ∀ r' s'' J2, LM G x b o ad J2 s'' s'' f → s''.1 0 = k → (k = 0 → r' = r) → Q (.inl (some (.int (iI r')))) J2) : aw_W G mM_load (d + 30) Q 0 [some (.ref b), some (.int (iI c)), some (.int (iI m))] [] J kc ks := by
  refine lw_use (Q1 := fun oc s'' => ∃ r', oc = .inl (some (.int (iI r'))) ∧ s''.1 0 = k ∧ (k = 0 → r' = r) ∧ cr_eq s' s'') h (mo_load (d := d + 26) hc hm hI.1.1 hI.1.2.1 hI.1.2.2.2.1 (fun q => ?_) (fun q1 q2 => ?_) (fun q1 q2 => ?_)) (fun oc s'' J' p1 p2 ⟨r', p3, p4, p5, p6⟩ => by rw [p3]; exact hq r' s'' J' (h.rf htg p1 p2 p6) p4 p5)
  · rcases hr with ⟨e1, e2, e3⟩ | ⟨e2, _⟩
    · exact ⟨0, rfl, e1.symm, fun e => absurd (e1.symm.trans e) (by decide), by rw [e3]; exact cr_eq.uz s 1⟩
    · exact absurd e2 q
  · rcases hr with ⟨e1, e2, e3⟩ | ⟨e2, ⟨e3, e4, e5⟩ | ⟨e3, _⟩⟩
    · exact absurd q1 e2
    · exact ⟨0, rfl, e3.symm, fun e => absurd (e3.symm.trans e) (by decide), by rw [e5]; exact cr_eq.uz s 2⟩
    · exact absurd e3 q2
  · rcases hr with ⟨e1, e2, e3⟩ | ⟨e2, ⟨e3, e4, e5⟩ | ⟨e3, n, r0, e4, e5, e6⟩⟩
    · exact absurd q1 e2
    · exact absurd q2 e4
    · refine ⟨n, r0, e4, fun g x y p q => ?_, fun g x y p q => ?_, fun g x y p q => ?_⟩
      all_goals
        rcases e6 with ⟨f1, f2⟩ | ⟨f1, f2⟩ | ⟨f1, f2, f3⟩
        all_goals first
          | exact ⟨_, rfl, f1.symm, fun e => absurd (f1.symm.trans e) (by decide), by rw [e5]; exact (cr_eq.uz _ _).tr (cr_eq.ff _ p q x y)⟩
          | exact ⟨_, rfl, f1.symm, fun _ => f3.symm, by rw [e5]; exact (cr_eq.uz _ _).tr (cr_eq.ff _ p q x y)⟩
          | (exfalso; omega)
end LW5
/-! apply -/
section LW6
variable {G : aw_G} {J J1 J2 : aw_J} {d kc ks : Nat} {Q : aw_O → aw_J → Prop} {x b o : Nat} {ad : Nat → Nat} {s s' s'' : mo_S} {f : Nat → Int64}
theorem cr_eq.uf (e : cr_eq s s') (k : Nat) (i v : Int) : cr_eq (mo_uf s k i v) (mo_uf s' k i v) := by
  refine ⟨e.1, e.2.1, fun k' hk => funext fun j => ?_, e.2.2.2⟩
  show (if k' = k ∧ j = i then v else s'.2.1 k' j) = (if k' = k ∧ j = i then v else s.2.1 k' j)
  rw [e.2.2.1 k' hk]
theorem lx_dv {n : Nat} {l p w v : Int} (h : Iv s) (h1 : cr_ch s.2 n l) (h2 : mo_chn s.2 n l) (h3 : mo_dr s.2 p n l (some (w, v))) : 0 ≤ v ∧ v ≤ 63 := by
  obtain ⟨ld, dl⟩ := mo_dr_b n l h2 h3
  obtain ⟨i, k, hi, _, hk, ev, _⟩ := dl
  have c := cr_dr_c n l h1 h3
  have up := h.1.2.2.2.2.2.2.2.2.2.1 (10 + 4 * w + i) (Or.inr ⟨w, i, c.1, c.2, hi, rfl⟩) k hk.1 hk.2
  have lo : 0 ≤ s.2.1 4 (8 * (10 + 4 * w + i) + 2 * k + 1) := (ld.2.2.2.2.1 i hi.1 hi.2).2.2.2.2 k hk.1 hk.2
  rw [ev]
  exact ⟨lo, up⟩
def la_t (t : mo_S) (c ty v : Int) (s' : mo_S) : Prop := (¬ mo_dsc (t.2.1 28) ty 1 ∧ v = -2 ∧ s' = t) ∨ (mo_dsc (t.2.1 28) ty 1 ∧ (((∃ k, 0 ≤ k ∧ k < t.2.1 23 c ∧ t.2.1 22 (8 * c + k) = ty) ∧ v = 0 ∧ s' = t) ∨ (¬ (∃ k, 0 ≤ k ∧ k < t.2.1 23 c ∧ t.2.1 22 (8 * c + k) = ty) ∧ ((t.2.1 23 c = 8 ∧ v = -3 ∧ s' = t) ∨ (t.2.1 23 c < 8 ∧ v = 1 ∧ s' = mo_uf (mo_uf t 22 (8 * c + t.2.1 23 c) ty) 23 c (t.2.1 23 c + 1))))))
def la_r (s : mo_S) (c k v : Int) (s' : mo_S) (u : mo_S × Int) : Prop := (k = 3 ∧ u.2 = -1 ∧ s' = u.1) ∨ (k = 4 ∧ u.2 = -2 ∧ s' = u.1) ∨ (k = 0 ∧ (0 ≤ u.2 ∧ u.2 < u.1.1 24) ∧ la_t u.1 c u.2 v s')
def la_n (s : mo_S) (c p k v : Int) (s' : mo_S) (n : Nat) (r0 : Option (Int × Int)) : Prop := (k = 0 ∧ v = -1 ∧ (r0 = none ∨ ∃ w m, r0 = some (w, m) ∧ ¬ (m < 8 ∨ mo_lt s.2 p m n (s.2.1 21 (3 * c + 2)))) ∧ s' = s) ∨ (∃ w m, r0 = some (w, m) ∧ (m < 8 ∨ mo_lt s.2 p m n (s.2.1 21 (3 * c + 2))) ∧ (0 ≤ m ∧ m ≤ 63) ∧ ∃ r, mo_ph s.2 (s.1 24) n 8 [] (s.2.1 21 (3 * c + 2)) m r ∧ Iv (mo_rs (mo_uz s 0 0) r).1 ∧ (0 ≤ (mo_rs (mo_uz s 0 0) r).1.2.1 23 c ∧ (mo_rs (mo_uz s 0 0) r).1.2.1 23 c ≤ 8) ∧ la_r s c k v s' (mo_rs (mo_uz s 0 0) r))
def lr_apply (s : mo_S) (c p k v : Int) (s' : mo_S) : Prop := (k = 1 ∧ ¬ ((0 ≤ c ∧ c < s.1 12) ∧ 0 ≤ p ∧ p ≤ 9) ∧ s' = s) ∨ (((0 ≤ c ∧ c < s.1 12) ∧ 0 ≤ p ∧ p ≤ 9) ∧ ((k = 2 ∧ ¬ s.2.1 13 c = 1 ∧ s' = s) ∨ (s.2.1 13 c = 1 ∧ ∃ n r0, (mo_chn s.2 n (s.2.1 21 (3 * c + 2)) ∧ mo_dr s.2 p n (s.2.1 21 (3 * c + 2)) r0) ∧ la_n s c p k v s' n r0)))
theorem lc_apply {c p : Int} (htg : aw_tg G) (hkc : 40 ≤ kc) (hks : 400 ≤ ks) (h : LM G x b o ad J s s f) (hc : iB c) (hp : iB p) (hq : ∀ k r s' J1 f', lr_apply s c p k r s' → LM G x b o ad J1 s s' f' → (k = 0 → f' 0 = (iI r).toInt64) → Q (.inl (some (.int (iI k)))) J1) : aw_W G mW_apply (d + 30) Q 0 [some (.ref x), some (.int (iI c)), some (.int (iI p)), some (.ref o), none] [] J kc ks := by
  have h0 := h
  obtain ⟨hI, hg, y, z, h1, hP, hw, ho⟩ := h.uz
  refine ww_apply (d := d + 29) (mc := 40) (ms := 400) (PV := fun r J' => ∃ s', lr_apply s c p 0 r s' ∧ LM G x b o ad J' s s' f) (P1 := fun J' => J' = J ∧ lr_apply s c p 1 0 s) (P2 := fun J' => J' = J ∧ lr_apply s c p 2 0 s) (P3 := fun J' => ∃ s', lr_apply s c p 3 0 s' ∧ LM G x b o ad J' s s' f) (P4 := fun J' => ∃ s', lr_apply s c p 4 0 s' ∧ LM G x b o ad J' s s' f) hkc hks ⟨_, h1.1.1⟩ (fun Q' hv' hx1 hx2 hx3 hx4 => ?_) (fun r J' q => ?_) (fun J' q => by rw [q.1]; exact hq 1 0 s J f q.2 h0 (fun e => absurd e (by decide))) (fun J' q => by rw [q.1]; exact hq 2 0 s J f q.2 h0 (fun e => absurd e (by decide))) (fun J' ⟨s', q1, q2⟩ => hq 3 0 s' J' f q1 q2 (fun e => absurd e (by decide))) (fun J' ⟨s', q1, q2⟩ => hq 4 0 s' J' f q1 q2 (fun e => absurd e (by decide)))
  · by_cases g : ((0 ≤ c ∧ c < s.1 12) ∧ 0 ≤ p ∧ p ≤ 9) ∧ s.2.1 13 c = 1
    · obtain ⟨n, n1, n2⟩ := lx_ch hI g.1.1 g.2
      obtain ⟨r0, hr0⟩ := mo_dr_ex s.2 p n _ n2
      have vv : ∀ w m, r0 = some (w, m) → 0 ≤ m ∧ m ≤ 63 := fun w m e => lx_dv hI n1 n2 (by rw [← e]; exact hr0)
      have : ∃ r, ∀ w m, r0 = some (w, m) → mo_ph s.2 (s.1 24) n 8 [] (s.2.1 21 (3 * c + 2)) m r ∧ (Iv (mo_rs (mo_uz s 0 0) r).1 ∧ ((mo_rs (mo_uz s 0 0) r).2 < (mo_rs (mo_uz s 0 0) r).1.1 24) ∧ (mo_rs (mo_uz s 0 0) r).1.2.1 23 = s.2.1 23 ∧ (mo_rs (mo_uz s 0 0) r).1.1 12 = s.1 12) := by
        cases e : r0 with
        | none => exact ⟨(0, []), fun w m q => by cases q⟩
        | some q =>
          obtain ⟨r, hr⟩ := mo_ph_ex (t := s.2) (N := s.1 24) 8 [] _ q.2 n2
          refine ⟨r, fun w m e2 => ?_⟩
          injection e2 with e2
          have em : q.2 = m := by rw [e2]
          rw [← em]
          have ivr := Iv.rs hI n1 (vv q.1 q.2 e).1 hr
          exact ⟨hr, ivr.1, ivr.2.1.2, ivr.2.2.1 23 (by decide), ivr.2.2.2⟩
      obtain ⟨r, hr⟩ := this
      have ap8 := (hI.1.2.2.2.2.2.2.2.1 c g.1.1.1 g.1.1.2).2.2.2.1.1
      have mk : ∀ (q1 : (0 ≤ c ∧ c < s.1 12) ∧ 0 ≤ p ∧ p ≤ 9) (q2 : s.2.1 13 c = 1) w m k v s', r0 = some (w, m) → (m < 8 ∨ mo_lt s.2 p m n (s.2.1 21 (3 * c + 2))) → la_r s c k v s' (mo_rs (mo_uz s 0 0) r) → lr_apply s c p k v s' := fun q1 q2 w m k v s' e1 e2 e3 => Or.inr ⟨q1, Or.inr ⟨q2, n, r0, ⟨n2, hr0⟩, Or.inr ⟨w, m, e1, e2, vv w m e1, r, (hr w m e1).1, (hr w m e1).2.1, by rw [(hr w m e1).2.2.2.1]; exact ap8, e3⟩⟩⟩
      refine cx_apply (d := d + 6) (n := n) (r0 := r0) (r := r) htg (by decide) (by decide) h1 hI.1 hg hc hp (fun _ _ => ⟨n1, hr0⟩) (fun _ _ w m e _ => ⟨vv w m e, (hr w m e).1⟩) (fun q => hx1 J ⟨rfl, Or.inl ⟨rfl, q, rfl⟩⟩) (fun q1 q2 => hx2 J ⟨rfl, Or.inr ⟨q1, Or.inl ⟨rfl, q2, rfl⟩⟩⟩) (fun q1 q2 q3 => hv' _ J ⟨s, Or.inr ⟨q1, Or.inr ⟨q2, n, r0, ⟨n2, hr0⟩, Or.inl ⟨rfl, rfl, q3, rfl⟩⟩⟩, h0⟩) (fun q1 q2 w m e1 e2 e3 J' q4 => hx3 J' ⟨_, mk q1 q2 w m _ _ _ e1 e2 (Or.inl ⟨rfl, e3, rfl⟩), LM.cm hP hw ho q4 (hr w m e1).2.1⟩) (fun q1 q2 w m e1 e2 e3 J' q4 => hx4 J' ⟨_, mk q1 q2 w m _ _ _ e1 e2 (Or.inr (Or.inl ⟨rfl, e3, rfl⟩)), LM.cm hP hw ho q4 (hr w m e1).2.1⟩) (fun q1 q2 w m e1 e2 e3 e4 J' q4 => hv' _ J' ⟨_, mk q1 q2 w m _ _ _ e1 e2 (Or.inr (Or.inr ⟨rfl, ⟨e3, (hr w m e1).2.2.1⟩, Or.inl ⟨e4, rfl, rfl⟩⟩)), LM.cm hP hw ho q4 (hr w m e1).2.1⟩) (fun q1 q2 w m e1 e2 e3 e4 e5 J' q4 => hv' _ J' ⟨_, mk q1 q2 w m _ _ _ e1 e2 (Or.inr (Or.inr ⟨rfl, ⟨e3, (hr w m e1).2.2.1⟩, Or.inr ⟨e4, Or.inl ⟨e5, rfl, rfl⟩⟩⟩)), LM.cm hP hw ho q4 (hr w m e1).2.1⟩) (fun q1 q2 w m e1 e2 e3 e4 e5 e6 J' q4 => hv' _ J' ⟨_, mk q1 q2 w m _ _ _ e1 e2 (Or.inr (Or.inr ⟨rfl, ⟨e3, (hr w m e1).2.2.1⟩, Or.inr ⟨e4, Or.inr ⟨e5, Or.inl ⟨e6, rfl, rfl⟩⟩⟩⟩)), LM.cm hP hw ho q4 (hr w m e1).2.1⟩) (fun q1 q2 w m e1 e2 e3 e4 e5 e6 J' q4 => hv' _ J' ⟨_, mk q1 q2 w m _ _ _ e1 e2 (Or.inr (Or.inr ⟨rfl, ⟨e3, (hr w m e1).2.2.1⟩, Or.inr ⟨e4, Or.inr ⟨e5, Or.inr ⟨e6, rfl, rfl⟩⟩⟩⟩)), LM.cm hP hw ho q4 ?_⟩)
      exact Iv.app (hr w m e1).2.1 ⟨q1.1.1, by rw [(hr w m e1).2.2.2.2]; exact q1.1.2⟩ e6 ⟨e3, (hr w m e1).2.2.1⟩ e4
    · exact cx_apply (d := d + 6) (n := 0) (r0 := none) (r := (0, [])) htg (by decide) (by decide) h1 hI.1 hg hc hp (fun q1 q2 => absurd ⟨q1, q2⟩ g) (fun q1 q2 => absurd ⟨q1, q2⟩ g) (fun q => hx1 J ⟨rfl, Or.inl ⟨rfl, q, rfl⟩⟩) (fun q1 q2 => hx2 J ⟨rfl, Or.inr ⟨q1, Or.inl ⟨rfl, q2, rfl⟩⟩⟩) (fun q1 q2 => absurd ⟨q1, q2⟩ g) (fun q1 q2 => absurd ⟨q1, q2⟩ g) (fun q1 q2 => absurd ⟨q1, q2⟩ g) (fun q1 q2 => absurd ⟨q1, q2⟩ g) (fun q1 q2 => absurd ⟨q1, q2⟩ g) (fun q1 q2 => absurd ⟨q1, q2⟩ g) (fun q1 q2 => absurd ⟨q1, q2⟩ g)
  · obtain ⟨s', q1, q2⟩ := q
    have q3 := q2.out
    exact ⟨f, q3, hq 0 r s' _ _ q1 (LM.ou htg q2) (fun _ => if_pos rfl)⟩
theorem lm_apply {c p k r : Int} (htg : aw_tg G) (h : LM G x b o ad J s s' f) (hI : Iv s) (hc : iB c) (hp : iB p) (hr : lr_apply s c p k r s') (hq : ∀ r' s'' J2, LM G x b o ad J2 s'' s'' f → s''.1 0 = k → (k = 0 → r' = r) → Q (.inl (some (.int (iI r')))) J2) : aw_W G mM_apply (d + 30) Q 0 [some (.ref b), some (.int (iI c)), some (.int (iI p)), none, none, none, none] [] J kc ks := by
  refine lw_use (Q1 := fun oc s'' => ∃ r', oc = .inl (some (.int (iI r'))) ∧ s''.1 0 = k ∧ (k = 0 → r' = r) ∧ cr_eq s' s'') h (mo_apply (d := d + 26) hc hp hI.1.1 hI.1.2.1 hI.1.2.2.2.1 (fun q => ?_) (fun q1 q2 => ?_) (fun q1 q2 => ?_)) (fun oc s'' J' p1 p2 ⟨r', p3, p4, p5, p6⟩ => by rw [p3]; exact hq r' s'' J' (h.rf htg p1 p2 p6) p4 p5)
  · rcases hr with ⟨e1, e2, e3⟩ | ⟨e2, _⟩
    · exact ⟨0, rfl, e1.symm, fun e => absurd (e1.symm.trans e) (by decide), by rw [e3]; exact cr_eq.uz s 1⟩
    · exact absurd e2 q
  · rcases hr with ⟨e1, e2, e3⟩ | ⟨e2, ⟨e3, e4, e5⟩ | ⟨e3, _⟩⟩
    · exact absurd q1 e2
    · exact ⟨0, rfl, e3.symm, fun e => absurd (e3.symm.trans e) (by decide), by rw [e5]; exact cr_eq.uz s 2⟩
    · exact absurd e3 q2
  · rcases hr with ⟨e1, e2, e3⟩ | ⟨e2, ⟨e3, e4, e5⟩ | ⟨e3, n, r0, e4, e5⟩⟩
    · exact absurd q1 e2
    · exact absurd q2 e4
    · refine ⟨n, r0, e4, fun g => ?_, fun w m g1 g2 => ?_, fun w m g1 g2 => ?_⟩
      · rcases e5 with ⟨f1, f2, f3, f4⟩ | ⟨w, m, f1, _⟩
        · exact ⟨_, rfl, f1.symm, fun _ => f2.symm, by rw [f4]; exact cr_eq.uz s 0⟩
        · rw [f1] at g; cases g
      · rcases e5 with ⟨f1, f2, f3, f4⟩ | ⟨w', m', f1, f2, _⟩
        · exact ⟨_, rfl, f1.symm, fun _ => f2.symm, by rw [f4]; exact cr_eq.uz s 0⟩
        · rw [f1] at g1
          injection g1 with g1
          injection g1 with g1 g3
          rw [g3] at f2
          exact absurd f2 g2
      · rcases e5 with ⟨f1, f2, f3 | ⟨w', m', f3, f4⟩, _⟩ | ⟨w', m', f1, f2, f3, r1, f4, f5, f5b, f6⟩
        · rw [f3] at g1; cases g1
        · rw [f3] at g1
          injection g1 with g1
          injection g1 with g1 g3
          rw [g3] at f4
          exact absurd g2 f4
        · rw [f1] at g1
          injection g1 with g1
          injection g1 with g1 g3
          rw [g3] at f2 f3 f4
          refine ⟨f3, r1, f4, fun e x y p q => ?_, fun e x y p q => ?_, fun e x y p q => ?_⟩
          · rcases f6 with ⟨k1, k2, k3⟩ | ⟨k1, k2, k3⟩ | ⟨k1, k2, k3⟩
            · exact ⟨_, rfl, k1.symm, fun e => absurd (k1.symm.trans e) (by decide), by rw [k3]; exact (cr_eq.uz _ _).tr (cr_eq.ff _ p q x y)⟩
            · omega
            · omega
          · rcases f6 with ⟨k1, k2, k3⟩ | ⟨k1, k2, k3⟩ | ⟨k1, k2, k3⟩
            · omega
            · exact ⟨_, rfl, k1.symm, fun e => absurd (k1.symm.trans e) (by decide), by rw [k3]; exact (cr_eq.uz _ _).tr (cr_eq.ff _ p q x y)⟩
            · omega
          · rcases f6 with ⟨k1, k2, k3⟩ | ⟨k1, k2, k3⟩ | ⟨k1, k2, k3⟩
            · omega
            · omega
            · have c11 : 0 ≤ c ∧ c ≤ 11 := by have := hI.1.1; omega
              refine mo_apply_t (s := mo_ff (mo_wq (mo_uz (mo_rs (mo_uz s 0 0) r1).1 0 0) p q) x y) (d := d + 29) c11 (by have := f5.1.2.1; omega) f5b f5.1.2.1.2 f5.1.2.2.2.2.1 k2 (fun m1 => ?_) (fun m1 m2 => ?_) (fun m1 m2 m3 => ?_) (fun m1 m2 m3 => ?_)
              · rcases k3 with ⟨j1, j2, j3⟩ | ⟨j1, _⟩
                · exact ⟨_, rfl, k1.symm, fun _ => j2.symm, by rw [j3]; exact (cr_eq.uz _ _).tr (cr_eq.ff _ p q x y)⟩
                · exact absurd j1 m1
              · rcases k3 with ⟨j1, j2, j3⟩ | ⟨j1, ⟨j2, j3, j4⟩ | ⟨j2, _⟩⟩
                · exact absurd m1 j1
                · exact ⟨_, rfl, k1.symm, fun _ => j3.symm, by rw [j4]; exact (cr_eq.uz _ _).tr (cr_eq.ff _ p q x y)⟩
                · exact absurd m2 j2
              · rcases k3 with ⟨j1, j2, j3⟩ | ⟨j1, ⟨j2, j3, j4⟩ | ⟨j2, ⟨j3, j4, j5⟩ | ⟨j3, j4, j5⟩⟩⟩
                · exact absurd m1 j1
                · exact absurd j2 m2
                · exact ⟨_, rfl, k1.symm, fun _ => j4.symm, by rw [j5]; exact (cr_eq.uz _ _).tr (cr_eq.ff _ p q x y)⟩
                · exact absurd j3 (by have : (mo_rs (mo_uz s 0 0) r1).1.2.1 23 c = 8 := m3; omega)
              · rcases k3 with ⟨j1, j2, j3⟩ | ⟨j1, ⟨j2, j3, j4⟩ | ⟨j2, ⟨j3, j4, j5⟩ | ⟨j3, j4, j5⟩⟩⟩
                · exact absurd m1 j1
                · exact absurd j2 m2
                · exact absurd j3 (by have : (mo_rs (mo_uz s 0 0) r1).1.2.1 23 c < 8 := m3; omega)
                · exact ⟨_, rfl, k1.symm, fun _ => j4.symm, by rw [j5]; exact (((cr_eq.uz _ _).tr (cr_eq.ff _ p q x y)).uf 22 _ _).uf 23 _ _⟩
end LW6
section LW7
variable {G : aw_G} {J J1 J2 : aw_J} {d kc ks : Nat} {Q : aw_O → aw_J → Prop} {x b o : Nat} {ad : Nat → Nat} {s s' s'' : mo_S} {f : Nat → Int64}
theorem LM.b0 (h : LM G x b o ad J s s' f) : iB (s.1 0) := by
  obtain ⟨_, _, y, z, _, hP, _⟩ := h
  exact hP.2.2.2.1 0
theorem LM.jb (h : LM G x b o ad J s s' f) : ∃ fs, J b = some (.inr (9, fs)) := by
  obtain ⟨_, _, y, z, _, hP, _⟩ := h
  exact ⟨_, hP.1⟩
theorem LM.jx (h : LM G x b o ad J s s' f) : ∃ fs, J x = some (.inr (8, fs)) := by
  obtain ⟨_, _, y, z, h1, _⟩ := h
  exact ⟨_, h1.1.1⟩
theorem LM.ro (h : LM G x b o ad J s s f) : Iv s := h.1
theorem lm_thrown (htg : aw_tg G) (h : LM G x b o ad J s s f) (hq : ∀ J2, LM G x b o ad J2 s s f → Q (.inl (some (.int (iI (s.1 0))))) J2) : aw_W G mM_thrown d Q 0 [some (.ref b)] [] J kc ks := by
  refine lw_use (Q1 := fun oc s'' => oc = .inl (some (.int (iI (s.1 0)))) ∧ s'' = s) h (mo_thrown ⟨rfl, rfl⟩) (fun oc s'' J' p1 p2 p3 => ?_)
  obtain ⟨p3, p4⟩ := p3
  subst p4
  rw [p3]
  exact hq J' (h.rf htg p1 p2 ⟨rfl, rfl, fun _ _ => rfl, rfl⟩)
theorem LM.st {H : aw_J} {y : st_Y} {z : cr_Z} {e : va_E} (htg : aw_tg G) (h : CR G x y z H (mo_n0 8)) (hb : H b = none) (hP : mo_P G b ad (mo_n0 8) J) (hA : ∀ k, mo_isA k = true → (aw_up H b e) (ad k) = none) (hk : ∀ a, a ≠ b → (aw_up H b e) a ≠ none → J a = (aw_up H b e) a) (ho : J o = none) : LM G x b o ad (aw_up J o (.inl (G.2.2.1 2, 1, .inr (.inl (fun _ => 0))))) (mo_n0 8) (mo_n0 8) (fun _ => 0) := by
  have k1 : ∀ a v, H a = some v → a ≠ b := fun a v q e => by rw [e, hb] at q; cases q
  have k2 : ∀ a v, H a = some v → J a = some v := fun a v q => by
    have q2 : (aw_up H b e) a = some v := (aw_up_n (k1 a v q)).trans q
    rw [hk a (k1 a v q) (by rw [q2]; exact fun z => by cases z), q2]
  have k3 : ∀ a v, J a = some v → (aw_up J o (.inl (G.2.2.1 2, 1, .inr (.inl (fun _ => 0))))) a = some v := fun a v q => (aw_up_n (fun e => by rw [e, ho] at q; cases q)).trans q
  have keep := fun a v q => k3 a v (k2 a v q)
  have hN : ∃ v, H (z 0 5) = some v := by
    obtain ⟨oN, q1, _⟩ := h.1.2.2.2.2.2.2.2.2
    exact ⟨_, q1⟩
  obtain ⟨vN, hN⟩ := hN
  refine ⟨Iv_n0, hP.2.2.2.2, y, z, ⟨h.1.ag htg (cr_ag.f (K := fun _ _ => false) (w := 0) keep) ⟨⟨rfl, rfl, rfl, fun _ => rfl⟩, ⟨rfl, rfl, rfl⟩, ⟨rfl, rfl, rfl, rfl⟩, rfl, rfl, rfl, rfl, rfl, rfl, rfl⟩ ((keep _ _ hN).trans hN.symm), h.2⟩, ⟨k3 _ _ hP.1, fun k q => k3 _ _ (hP.2.1 k q), hP.2.2⟩, fun k q e => ?_, aw_up_s⟩
  have q2 := hA k q
  rw [e, aw_up_n (k1 _ _ hN), hN] at q2
  cases q2
/-- an int of the script -/
def lw_s (G : aw_G) (i : Int) : Int := (G.2.2.2.2.2.2 i.toNat).toInt
theorem lw_sb (G : aw_G) (i : Int) : iB (lw_s G i) := iI_bd _
theorem lw_15 (a : Int32) : 0 ≤ (a &&& iI 15).toInt ∧ (a &&& iI 15).toInt ≤ 15 := by
  have h1 : (a &&& iI 15).toBitVec = a.toBitVec &&& 15#32 := rfl
  have h2 : (a.toBitVec &&& 15#32).toNat ≤ 15 := by
    rw [BitVec.toNat_and]
    exact Nat.and_le_right
  have h3 : (a &&& iI 15).toInt = ((a.toBitVec &&& 15#32).toNat : Int) := by
    show (a &&& iI 15).toBitVec.toInt = _
    rw [h1, BitVec.toInt_eq_toNat_of_lt (by omega)]
  omega
end LW7
