/-! removals: the state does not tell in what order loaders went -/
section CR9
variable {s s' : mo_S}
theorem mo_hk_rem {l j : Int} (hl : 1 ≤ l) (h5 : ¬ s.2.1 5 l = 0) (n : Nat) : mo_hk (mo_rem s l) j n = mo_hk s j n - (if l ≤ (n : Int) ∧ s.2.1 7 l = j then 1 else 0) := by
  have e7 : (mo_rem s l).2.1 7 = s.2.1 7 := mo_rem_o s l (by decide) (by decide)
  induction n with
  | zero => rw [mo_hk, mo_hk, if_neg (fun e => absurd e.1 (by omega)), Int.sub_zero]
  | succ n ih =>
    rw [mo_hk, mo_hk, ih, e7, mo_rem_5]
    by_cases e : (n : Int) + 1 = l
    · have e0 : (if (n : Int) + 1 = l then (0 : Int) else s.2.1 5 ((n : Int) + 1)) = 0 := if_pos e
      simp only [e0, ne_eq, not_true_eq_false, false_and, if_false]
      rw [e, if_neg (fun m => absurd m.1 (by omega))]
      by_cases ej : s.2.1 7 l = j
      · rw [if_pos ⟨h5, ej⟩, if_pos ⟨by omega, ej⟩]; omega
      · rw [if_neg (fun m => ej m.2), if_neg (fun m => ej m.2)]; omega
    · have e0 : (if (n : Int) + 1 = l then (0 : Int) else s.2.1 5 ((n : Int) + 1)) = s.2.1 5 ((n : Int) + 1) := if_neg e
      simp only [e0]
      have e1 : (if l ≤ (n : Int) ∧ s.2.1 7 l = j then (1 : Int) else 0) = (if l ≤ ((n + 1 : Nat) : Int) ∧ s.2.1 7 l = j then 1 else 0) := by
        by_cases ej : s.2.1 7 l = j
        · by_cases el : l ≤ (n : Int)
          · rw [if_pos ⟨el, ej⟩, if_pos ⟨by omega, ej⟩]
          · rw [if_neg (fun m => el m.1), if_neg (fun m => absurd m.1 (by omega))]
        · rw [if_neg (fun m => ej m.2), if_neg (fun m => ej m.2)]
      rw [e1]
      omega
theorem mo_hold_rem {l j : Int} (hl : 1 ≤ l ∧ l ≤ 40) (h5 : ¬ s.2.1 5 l = 0) : mo_hold (mo_rem s l) j = mo_hold s j - (if s.2.1 7 l = j then 1 else 0) := by
  unfold mo_hold
  rw [mo_hk_rem hl.1 h5, mo_hs_cg (s := s) (mo_rem_o s l (by decide) (by decide)) (mo_rem_o s l (by decide) (by decide)), show (mo_rem s l).1 12 = s.1 12 from rfl]
  have e1 : (if l ≤ ((40 : Nat) : Int) ∧ s.2.1 7 l = j then (1 : Int) else 0) = (if s.2.1 7 l = j then 1 else 0) := by
    by_cases ej : s.2.1 7 l = j
    · rw [if_pos ⟨by omega, ej⟩, if_pos ej]
    · rw [if_neg (fun m => ej m.2), if_neg ej]
  rw [e1]
  omega
theorem mo_hk_pos {l j : Int} (hj : 1 ≤ j) (h5 : ¬ s.2.1 5 j = 0) (h7 : s.2.1 7 j = l) : ∀ n : Nat, j ≤ (n : Int) → 1 ≤ mo_hk s l n := by
  intro n
  induction n with
  | zero => intro h; omega
  | succ n ih =>
    intro h
    rw [mo_hk]
    have b := mo_hk_b s l n
    by_cases e : (n : Int) + 1 = j
    · rw [e, if_pos ⟨h5, h7⟩]; omega
    · have := ih (by omega)
      split <;> omega
theorem mo_hold_pos {l j : Int} (hj : 1 ≤ j ∧ j ≤ 40) (h5 : ¬ s.2.1 5 j = 0) (h7 : s.2.1 7 j = l) : 1 ≤ mo_hold s l := by
  have := mo_hk_pos hj.1 h5 h7 40 hj.2
  have b := mo_hs_b s l (s.1 12 - 1).toNat
  unfold mo_hold
  split <;> omega
/-- the live loaders from l up to the root -/
def cr_ch (t : mo_T) : Nat → Int → Prop
  | 0, l => l = 0
  | n + 1, l => l = 0 ∨ ((1 ≤ l ∧ l ≤ 40) ∧ ¬ t.1 5 l = 0 ∧ cr_ch t n (t.1 7 l))
theorem cr_ch_rem {l : Int} (hno : ∀ j, 1 ≤ j → j ≤ 40 → ¬ s.2.1 5 j = 0 → ¬ s.2.1 7 j = l) : ∀ (n : Nat) (p : Int), cr_ch s.2 n p → p ≠ l → cr_ch (mo_rem s l).2 n p := by
  intro n
  induction n with
  | zero => exact fun p h _ => h
  | succ n ih =>
    intro p h hp
    rcases h with h | ⟨h1, h2, h3⟩
    · exact Or.inl h
    · refine Or.inr ⟨h1, ?_, ?_⟩
      · rw [mo_rem_5]
        show ¬ (if p = l then (0 : Int) else s.2.1 5 p) = 0
        rw [if_neg hp]
        exact h2
      · rw [mo_rem_o s l (by decide) (by decide)]
        exact ih _ h3 (hno p h1.1 h1.2 h2)
theorem mo_rml_app : ∀ (D D' : List Int) (s : mo_S), mo_rml s (D ++ D') = mo_rml (mo_rml s D) D' := by
  intro D
  induction D with
  | nil => exact fun D' s => rfl
  | cons l D ih => exact fun D' s => ih D' (mo_rem s l)
theorem mo_rv_app : ∀ (D D' : List Int) (s : mo_S), mo_rv s D → mo_rv (mo_rml s D) D' → mo_rv s (D ++ D') := by
  intro D
  induction D with
  | nil => exact fun D' s _ h => h
  | cons l D ih => exact fun D' s h h' => ⟨h.1, ih D' (mo_rem s l) h.2 h'⟩
/-- how a list of removals changes the state -/
theorem mo_rml_o : ∀ (D : List Int) (s : mo_S), (mo_rml s D).1 = s.1 ∧ (mo_rml s D).2.2 = s.2.2 ∧ ∀ k, k ≠ 5 → k ≠ 26 → (mo_rml s D).2.1 k = s.2.1 k := by
  intro D
  induction D with
  | nil => exact fun s => ⟨rfl, rfl, fun _ _ _ => rfl⟩
  | cons l D ih =>
    intro s
    have h := ih (mo_rem s l)
    exact ⟨h.1, h.2.1, fun k h5 h26 => (h.2.2 k h5 h26).trans (mo_rem_o s l h5 h26)⟩
theorem mo_rml_5 : ∀ (D : List Int) (s : mo_S) (j : Int), (mo_rml s D).2.1 5 j = if j ∈ D then 0 else s.2.1 5 j := by
  intro D
  induction D with
  | nil => intro s j; rfl
  | cons l D ih =>
    intro s j
    show (mo_rml (mo_rem s l) D).2.1 5 j = _
    rw [ih, mo_rem_5]
    by_cases e : j ∈ D
    · rw [if_pos e, if_pos (List.mem_cons_of_mem _ e)]
    · rw [if_neg e]
      by_cases e2 : j = l
      · rw [if_pos (by rw [e2]; exact List.mem_cons_self)]
        show (if j = l then (0 : Int) else s.2.1 5 j) = 0
        rw [if_pos e2]
      · rw [if_neg (fun m => by
          rcases List.mem_cons.mp m with m | m
          · exact e2 m
          · exact e m)]
        show (if j = l then (0 : Int) else s.2.1 5 j) = _
        rw [if_neg e2]
theorem mo_rml_26 : ∀ (D : List Int) (s : mo_S), (∀ j, j ∈ D → 1 ≤ j) → ∀ c, (mo_rml s D).2.1 26 c = if (8 ≤ c ∧ c < s.1 24) ∧ s.2.1 26 c ∈ D then -1 else s.2.1 26 c := by
  intro D
  induction D with
  | nil => intro s _ c; rw [if_neg (fun m => absurd m.2 List.not_mem_nil)]; rfl
  | cons l D ih =>
    intro s hD c
    show (mo_rml (mo_rem s l) D).2.1 26 c = _
    rw [ih _ (fun j hj => hD j (List.mem_cons_of_mem _ hj)), mo_rem_26, show (mo_rem s l).1 24 = s.1 24 from rfl]
    by_cases e : (8 ≤ c ∧ c < s.1 24) ∧ s.2.1 26 c = l
    · have hm : s.2.1 26 c ∈ l :: D := by rw [e.2]; exact List.mem_cons_self
      rw [if_pos e, if_pos (c := ((8 ≤ c ∧ c < s.1 24) ∧ s.2.1 26 c ∈ l :: D)) ⟨e.1, hm⟩, if_neg (fun m => absurd (hD _ (List.mem_cons_of_mem _ m.2)) (by decide))]
    · rw [if_neg e]
      by_cases e2 : (8 ≤ c ∧ c < s.1 24) ∧ s.2.1 26 c ∈ D
      · rw [if_pos e2, if_pos ⟨e2.1, List.mem_cons_of_mem _ e2.2⟩]
      · rw [if_neg e2, if_neg (fun m => by
          rcases List.mem_cons.mp m.2 with k | k
          · exact e ⟨m.1, k⟩
          · exact e2 ⟨m.1, k⟩)]
theorem mo_rml_fr : ∀ (D : List Int) (s : mo_S), mo_rv s D → mo_fr ((mo_rml s D).2.1 5) 40 = mo_fr (s.2.1 5) 40 + (D.length : Int) := by
  intro D
  induction D with
  | nil => intro s _; show _ = _ + (0 : Int); rw [Int.add_zero]; rfl
  | cons l D ih =>
    intro s h
    show mo_fr ((mo_rml (mo_rem s l) D).2.1 5) 40 = _
    rw [ih _ h.2, mo_rem_fr h.1, List.length_cons]
    omega
theorem mo_rv_m : ∀ (D : List Int) (s : mo_S), mo_rv s D → ∀ j, j ∈ D → (1 ≤ j ∧ j ≤ 40) ∧ ¬ s.2.1 5 j = 0 := by
  intro D
  induction D with
  | nil => intro s _ j hj; exact absurd hj List.not_mem_nil
  | cons l D ih =>
    intro s h j hj
    rcases List.mem_cons.mp hj with e | e
    · rw [e]; exact ⟨h.1.1, h.1.2.1⟩
    · have := ih _ h.2 j e
      refine ⟨this.1, fun m => this.2 ?_⟩
      rw [mo_rem_5]
      show (if j = l then (0 : Int) else s.2.1 5 j) = 0
      split
      · rfl
      · exact m
/-- fewer loaders, fewer holders -/
theorem mo_hold_mono (h12 : s'.1 12 = s.1 12) (h5 : ∀ j, s.2.1 5 j = 0 → s'.2.1 5 j = 0) (h7 : s'.2.1 7 = s.2.1 7) (h13 : s'.2.1 13 = s.2.1 13) (h21 : s'.2.1 21 = s.2.1 21) (l : Int) : mo_hold s' l ≤ mo_hold s l := by
  have e1 : ∀ n, mo_hk s' l n ≤ mo_hk s l n := by
    intro n
    induction n with
    | zero => exact Int.le_refl _
    | succ n ih =>
      rw [mo_hk, mo_hk, h7]
      by_cases e : s.2.1 5 ((n : Int) + 1) ≠ 0 ∧ s.2.1 7 ((n : Int) + 1) = l
      · rw [if_pos e]
        split <;> omega
      · rw [if_neg e, if_neg (fun m => e ⟨fun k => m.1 (h5 _ k), m.2⟩)]
        omega
  have := e1 40
  unfold mo_hold
  rw [mo_hs_cg h13 h21, h12]
  omega
theorem mo_rml_sub : ∀ (D : List Int) (s0 s1 : mo_S) (D' : List Int), (∀ j, s1.2.1 5 j = 0 → s1.2.1 5 j = 0) → mo_rv s1 D → s1.1 = s0.1 → (∀ k, k ≠ 5 → k ≠ 26 → s1.2.1 k = s0.2.1 k) → (∀ j, s1.2.1 5 j = 0 → s0.2.1 5 j = 0 ∨ j ∈ D') → mo_nm (mo_rml s0 D') → (∀ j, ¬ s1.2.1 5 j = 0 → ¬ s0.2.1 5 j = 0) → ∀ j, j ∈ D → j ∈ D' := by
  intro D
  induction D with
  | nil => exact fun _ _ _ _ _ _ _ _ _ _ j hj => absurd hj List.not_mem_nil
  | cons l D ih =>
    intro s0 s1 D' h0 hv e1 e2 h5 hn hl j hj
    have hlD : l ∈ D' := by
      refine Classical.byContradiction (fun hc => ?_)
      have o := mo_rml_o D' s0
      have l5 : ¬ (mo_rml s0 D').2.1 5 l = 0 := by
        rw [mo_rml_5, if_neg hc]
        exact hl l hv.1.2.1
      have p := hn l hv.1.1.1 hv.1.1.2 l5
      have m := mo_hold_mono (s := s1) (s' := mo_rml s0 D') (by rw [o.1, e1]) (fun j z => by
        rw [mo_rml_5]
        rcases h5 j z with k | k
        · split
          · rfl
          · exact k
        · rw [if_pos k]) (by rw [o.2.2 7 (by decide) (by decide), e2 7 (by decide) (by decide)]) (by rw [o.2.2 13 (by decide) (by decide), e2 13 (by decide) (by decide)]) (by rw [o.2.2 21 (by decide) (by decide), e2 21 (by decide) (by decide)]) l
      have := hv.1.2.2
      omega
    rcases List.mem_cons.mp hj with e | e
    · rw [e]; exact hlD
    · refine ih s0 (mo_rem s1 l) D' (fun _ k => k) hv.2 e1 (fun k k5 k26 => (mo_rem_o s1 l k5 k26).trans (e2 k k5 k26)) (fun j z => ?_) hn (fun j z => ?_) j e
      · rw [mo_rem_5] at z
        by_cases k : j = l
        · rw [k]; exact Or.inr hlD
        · exact h5 j (by rw [← z]; show s1.2.1 5 j = (if j = l then (0 : Int) else s1.2.1 5 j); rw [if_neg k])
      · rw [mo_rem_5] at z
        refine hl j (fun m => z ?_)
        show (if j = l then (0 : Int) else s1.2.1 5 j) = 0
        split
        · rfl
        · exact m
/-- two lists of removals after which nobody has to go lead to one state -/
theorem mo_rml_eq {D D' : List Int} (h : mo_rv s D) (h' : mo_rv s D') (n : mo_nm (mo_rml s D)) (n' : mo_nm (mo_rml s D')) : mo_rml s D = mo_rml s D' ∧ D.length = D'.length := by
  have a := mo_rml_sub D s s D' (fun _ k => k) h rfl (fun _ _ _ => rfl) (fun _ k => Or.inl k) n' (fun _ k => k)
  have b := mo_rml_sub D' s s D (fun _ k => k) h' rfl (fun _ _ _ => rfl) (fun _ k => Or.inl k) n (fun _ k => k)
  have ab : ∀ j, j ∈ D ↔ j ∈ D' := fun j => ⟨a j, b j⟩
  have e : mo_rml s D = mo_rml s D' := by
    have o := mo_rml_o D s
    have o' := mo_rml_o D' s
    refine Prod.ext (o.1.trans o'.1.symm) (Prod.ext ?_ (o.2.1.trans o'.2.1.symm))
    funext k j
    by_cases k5 : k = 5
    · rw [k5, mo_rml_5, mo_rml_5]
      by_cases e : j ∈ D
      · rw [if_pos e, if_pos (a j e)]
      · rw [if_neg e, if_neg (fun m => e (b j m))]
    · by_cases k26 : k = 26
      · rw [k26, mo_rml_26 D s (fun j hj => (mo_rv_m D s h j hj).1.1), mo_rml_26 D' s (fun j hj => (mo_rv_m D' s h' j hj).1.1)]
        by_cases e : (8 ≤ j ∧ j < s.1 24) ∧ s.2.1 26 j ∈ D
        · rw [if_pos e, if_pos ⟨e.1, a _ e.2⟩]
        · rw [if_neg e, if_neg (fun m => e ⟨m.1, b _ m.2⟩)]
      · rw [o.2.2 k k5 k26, o'.2.2 k k5 k26]
  refine ⟨e, ?_⟩
  have f := mo_rml_fr D s h
  have f' := mo_rml_fr D' s h'
  rw [e] at f
  omega
end CR9
/-! letting loaders go -/
section CR10
variable {G : aw_G} {J : aw_J} {d kc ks : Nat} {Q : aw_O → aw_J → Prop} {x : Nat} {y : st_Y} {z : cr_Z} {s s' : mo_S}
theorem mo_hold_0 (s : mo_S) (h12 : 1 ≤ s.1 12 ∧ s.1 12 ≤ 12) : 2 ≤ mo_hold s 0 := by
  have a := mo_hk_b s 0 40
  have b := mo_hs_b s 0 (s.1 12 - 1).toNat
  unfold mo_hold
  rw [if_pos rfl]
  omega
theorem cx_letGo_l {pend : Int → Int} {a0 : Nat} (htg : aw_tg G) (hp0 : ∀ j, 0 ≤ pend j ∧ pend j ≤ 3) : ∀ (n : Nat) (l : Int) (s1 : mo_S) (y1 : st_Y) (J1 : aw_J) (g : Int), C0 G x y1 z J1 s1 → cr_ch s1.2 n l → cr_ll s1 l → ¬ s1.2.1 5 0 = 0 → (∀ c, 0 ≤ c → c < s1.1 24 → 1 ≤ s1.2.1 26 c → 8 ≤ c) → (1 ≤ s1.1 12 ∧ s1.1 12 ≤ 12) → (∀ j, 0 ≤ j → j ≤ 40 → ¬ s1.2.1 5 j = 0 → yHo y1 j = mo_hold s1 j + pend j + (if j = l then 1 else 0)) → (∀ j, 1 ≤ j → j ≤ 40 → ¬ s1.2.1 5 j = 0 → 0 < mo_hold s1 j + pend j ∨ j = l) → (∀ D y2 J2, mo_rv s1 D → (∀ j, j ∈ D → pend j = 0) → C0 G x y2 z J2 (mo_rml s1 D) → cr_ag G cr_kGo (z 0 5) J1 J2 → (yLo y2 = yLo y1 ∧ yDc y2 = yDc y1) → (∀ j, 0 ≤ j → j ≤ 40 → ¬ (mo_rml s1 D).2.1 5 j = 0 → yHo y2 j = mo_hold (mo_rml s1 D) j + pend j) → (∀ j, 1 ≤ j → j ≤ 40 → ¬ (mo_rml s1 D).2.1 5 j = 0 → 0 < mo_hold (mo_rml s1 D) j + pend j) → Q (.inl (some (.int (iI (g + (D.length : Int)))))) J2) → aw_W G mT_letGo d Q 4 [some (.ref x), some (.ref a0), some (.int (iI g)), some (.ref (yLo y1 l))] [] J1 kc ks := by
  intro n
  induction n with
  | zero =>
    intro l s1 y1 J1 g h hch hll h50 h26 h12 hH hpos hq
    have hl0 : l = 0 := hch
    have hL := CR.ld h hll
    obtain ⟨⟨cL, l1, l2⟩, l3⟩ := h.2.2.2.1
    have hh := hH l hll.1.1 hll.1.2 hll.2
    rw [if_pos rfl] at hh
    have hb := mo_hold_b (s := s1) l h12
    have hp := hp0 l
    have hr := mo_hold_0 s1 h12
    rw [hl0] at hh hb hp
    refine sp_letGo_s h.1 l1 hL.1 hll.1 (by rw [hl0]; omega) (fun _ => ?_) (fun m => absurd m (by rw [hl0]; omega))
    have ho := C0.ho (l := l) (h' := yHo y1 l - 1) htg h hll
    have e : g + (([] : List Int).length : Int) = g := by show g + 0 = g; omega
    rw [← e]
    refine hq [] _ _ trivial (fun j hj => absurd hj List.not_mem_nil) ho.1 (ho.2.wd (fun i n => by simp [cr_kGo, cr_kHo]; omega)) ⟨rfl, rfl⟩ (fun j j1 j2 j3 => ?_) (fun j j1 j2 j3 => ?_)
    · show cr_u1 (yHo y1) l (yHo y1 l - 1) j = mo_hold s1 j + pend j
      have := hH j j1 j2 j3
      unfold cr_u1
      by_cases ej : j = l
      · rw [if_pos ej, ← ej]; rw [if_pos ej] at this; omega
      · rw [if_neg ej]; rw [if_neg ej] at this; omega
    · show 0 < mo_hold s1 j + pend j
      rcases hpos j j1 j2 j3 with k | k
      · exact k
      · omega
  | succ n ih =>
    intro l s1 y1 J1 g h hch hll h50 h26 h12 hH hpos hq
    have hL := CR.ld h hll
    obtain ⟨⟨cL, l1, l2⟩, l3⟩ := h.2.2.2.1
    have hh := hH l hll.1.1 hll.1.2 hll.2
    rw [if_pos rfl] at hh
    have hb := mo_hold_b (s := s1) l h12
    have hp := hp0 l
    refine sp_letGo_s h.1 l1 hL.1 hll.1 (by omega) (fun m => ?_) (fun m => ?_)
    · have ho := C0.ho (l := l) (h' := yHo y1 l - 1) htg h hll
      have e : g + (([] : List Int).length : Int) = g := by show g + 0 = g; omega
      rw [← e]
      refine hq [] _ _ trivial (fun j hj => absurd hj List.not_mem_nil) ho.1 (ho.2.wd (fun i n => by simp [cr_kGo, cr_kHo]; omega)) ⟨rfl, rfl⟩ (fun j j1 j2 j3 => ?_) (fun j j1 j2 j3 => ?_)
      · show cr_u1 (yHo y1) l (yHo y1 l - 1) j = mo_hold s1 j + pend j
        have := hH j j1 j2 j3
        unfold cr_u1
        by_cases ej : j = l
        · rw [if_pos ej, ← ej]; rw [if_pos ej] at this; omega
        · rw [if_neg ej]; rw [if_neg ej] at this; omega
      · show 0 < mo_hold s1 j + pend j
        rcases hpos j j1 j2 j3 with k | k
        · exact k
        · rw [k]; omega
    · have hr := mo_hold_0 s1 h12
      have hl0 : l ≠ 0 := by
        intro e
        rw [e] at hh m hp
        omega
      have hl1 : 1 ≤ l := by have := hll.1.1; omega
      rcases hch with hch | ⟨hl2, hl5, hch⟩
      · exact absurd hch hl0
      have hno : ∀ j, 1 ≤ j → j ≤ 40 → ¬ s1.2.1 5 j = 0 → ¬ s1.2.1 7 j = l := by
        intro j j1 j2 j3 j4
        have := mo_hold_pos ⟨j1, j2⟩ j3 j4
        omega
      have hp7 : s1.2.1 7 l ≠ l := hno l hl1 hl2.2 hl5
      have go := C0.gone (l := l) (h' := yHo y1 l - 1) htg h hll hl1 (fun c c1 c2 c3 => h26 c c1 c2 (by omega)) l1 l2
      have e5 : ∀ j, (mo_rem s1 l).2.1 5 j = if j = l then 0 else s1.2.1 5 j := fun j => by rw [mo_rem_5]
      have hpa : st_pa y1 s1.2 l = some (yLo y1 (s1.2.1 7 l)) := if_neg hl0
      refine aw_lcs (L2 := [some (.ref x), some (.ref a0), some (.int (iI (g + 1))), some (.ref (yLo y1 (s1.2.1 7 l)))]) (by rw [hpa]; rfl) ?_
      have lv7 : cr_ll (mo_rem s1 l) (s1.2.1 7 l) := by
        unfold cr_ll
        rw [e5, if_neg hp7]
        cases n with
        | zero =>
          have : s1.2.1 7 l = 0 := hch
          rw [this]
          exact ⟨by decide, h50⟩
        | succ n =>
          rcases hch with e | ⟨c1, c2, c3⟩
          · rw [e]
            exact ⟨by decide, h50⟩
          · exact ⟨⟨by omega, by omega⟩, c2⟩
      refine ih (s1.2.1 7 l) (mo_rem s1 l) y1 _ (g + 1) go.1 (cr_ch_rem hno n _ hch hp7) lv7 (by rw [e5, if_neg (fun e => hl0 e.symm)]; exact h50) (fun c c1 c2 c3 => ?_) h12 (fun j j1 j2 j3 => ?_) (fun j j1 j2 j3 => ?_) (fun D y2 J2 q1 q0 q2 q3 q4 q5 q6 => ?_)
      · rw [mo_rem_26] at c3
        by_cases e : (8 ≤ c ∧ c < s1.1 24) ∧ s1.2.1 26 c = l
        · exact e.1.1
        · rw [if_neg e] at c3
          exact h26 c c1 c2 c3
      · rw [e5] at j3
        by_cases ej : j = l
        · rw [if_pos ej] at j3; exact absurd rfl j3
        · rw [if_neg ej] at j3
          have := hH j j1 j2 j3
          rw [if_neg ej] at this
          rw [this, mo_hold_rem hl2 hl5]
          by_cases e7 : j = s1.2.1 7 l
          · rw [if_pos e7.symm, if_pos e7]; omega
          · rw [if_neg (fun m => e7 m.symm), if_neg e7]; omega
      · rw [e5] at j3
        by_cases ej : j = l
        · rw [if_pos ej] at j3; exact absurd rfl j3
        · rw [if_neg ej] at j3
          rw [mo_hold_rem hl2 hl5]
          by_cases e7 : j = s1.2.1 7 l
          · exact Or.inr e7
          · rw [if_neg (fun m => e7 m.symm)]
            rcases hpos j j1 j2 j3 with k | k
            · exact Or.inl (by omega)
            · exact absurd k ej
      · have e : g + (((l :: D) : List Int).length : Int) = g + 1 + (D.length : Int) := by rw [List.length_cons]; omega
        rw [← e]
        refine hq (l :: D) y2 J2 ⟨⟨hl2, hl5, by omega⟩, q1⟩ (fun j hj => ?_) q2 (go.2.tr q3) q4 q5 q6
        rcases List.mem_cons.mp hj with k | k
        · rw [k]; omega
        · exact q0 j k
theorem cr_ch_rml : ∀ (D : List Int) (s : mo_S) (n : Nat) (p : Int), mo_rv s D → (1 ≤ s.1 12 ∧ s.1 12 ≤ 12) → cr_ch s.2 n p → (p = 0 ∨ ¬ (mo_rml s D).2.1 5 p = 0) → cr_ch (mo_rml s D).2 n p := by
  intro D
  induction D with
  | nil => exact fun s n p _ _ h _ => h
  | cons l D ih =>
    intro s n p hv h12 hc hp
    refine ih (mo_rem s l) n p hv.2 h12 ?_ hp
    have hb := mo_hold_b (s := s) l h12
    refine cr_ch_rem (fun j j1 j2 j3 j4 => ?_) n p hc (fun e => ?_)
    · have := mo_hold_pos ⟨j1, j2⟩ j3 j4
      have := hv.1.2.2
      omega
    · rcases hp with hp | hp
      · have := hv.1.1.1
        omega
      · rw [mo_rml_5, if_pos (by rw [e]; exact List.mem_cons_self)] at hp
        exact hp rfl
theorem mo_dc_rml {D : List Int} (hD : ∀ j, j ∈ D → 1 ≤ j) {j : Int} (h0 : 0 ≤ j) (hj : j ∉ D) (n : Nat) : mo_dc ((mo_rml s D).2.1 26) j n = mo_dc (s.2.1 26) j n := by
  induction n with
  | zero => rfl
  | succ n ih =>
    rw [mo_dc, mo_dc, ih, mo_rml_26 D s hD]
    by_cases e : (8 ≤ (n : Int) + 8 ∧ (n : Int) + 8 < s.1 24) ∧ s.2.1 26 ((n : Int) + 8) ∈ D
    · have hne : ¬ s.2.1 26 ((n : Int) + 8) = j := fun m => hj (m ▸ e.2)
      rw [if_pos e, if_neg (by omega), if_neg hne]
    · rw [if_neg e]
end CR10
/-! release -/
section CR11
variable {G : aw_G} {J : aw_J} {d kc ks : Nat} {Q : aw_O → aw_J → Prop} {x : Nat} {y : st_Y} {z : cr_Z} {s s' : mo_S}
theorem mo_hs_unl {c l : Int} (hc : 1 ≤ c) (n : Nat) : mo_hs s l n = mo_hs (mo_uf s 13 c 2) l n + (if c ≤ (n : Int) ∧ s.2.1 13 c = 1 then mo_h3 s l c 3 else 0) := by
  have e21 : (mo_uf s 13 c 2).2.1 21 = s.2.1 21 := mo_uf_o s (by decide) _ _
  have e3 : ∀ t n, mo_h3 (mo_uf s 13 c 2) l t n = mo_h3 s l t n := by
    intro t n
    induction n with
    | zero => rfl
    | succ n ih => rw [mo_h3, mo_h3, ih, e21]
  have e13 : ∀ p, (mo_uf s 13 c 2).2.1 13 p = if p = c then 2 else s.2.1 13 p := by
    intro p
    rw [mo_uf_2]
    simp only [true_and]
  induction n with
  | zero =>
    have a1 : ¬ (c ≤ ((0 : Nat) : Int) ∧ s.2.1 13 c = 1) := fun e => absurd e.1 (by omega)
    rw [mo_hs, mo_hs, if_neg a1]; omega
  | succ n ih =>
    rw [mo_hs, mo_hs, ih, e3]
    by_cases e : (n : Int) + 1 = c
    · have f : (mo_uf s 13 c 2).2.1 13 ((n : Int) + 1) = 2 := by rw [e13, if_pos e]
      have a1 : ¬ (c ≤ (n : Int) ∧ s.2.1 13 c = 1) := fun m => absurd m.1 (by omega)
      have a3 : ¬ ((2 : Int) = 1) := by decide
      rw [f, if_neg a1, if_neg a3, e]
      by_cases e1 : s.2.1 13 c = 1
      · have a2 : c ≤ ((n + 1 : Nat) : Int) ∧ s.2.1 13 c = 1 := ⟨by omega, e1⟩
        rw [if_pos e1, if_pos a2]
      · have a2 : ¬ (c ≤ ((n + 1 : Nat) : Int) ∧ s.2.1 13 c = 1) := fun m => e1 m.2
        rw [if_neg e1, if_neg a2]
    · have f : (mo_uf s 13 c 2).2.1 13 ((n : Int) + 1) = s.2.1 13 ((n : Int) + 1) := by rw [e13, if_neg e]
      rw [f]
      have a1 : (if c ≤ (n : Int) ∧ s.2.1 13 c = 1 then mo_h3 s l c 3 else 0) = (if c ≤ ((n + 1 : Nat) : Int) ∧ s.2.1 13 c = 1 then mo_h3 s l c 3 else 0) := by
        by_cases e1 : c ≤ (n : Int) ∧ s.2.1 13 c = 1
        · have a2 : c ≤ ((n + 1 : Nat) : Int) ∧ s.2.1 13 c = 1 := ⟨by omega, e1.2⟩
          rw [if_pos e1, if_pos a2]
        · have a2 : ¬ (c ≤ ((n + 1 : Nat) : Int) ∧ s.2.1 13 c = 1) := fun m => e1 ⟨by omega, m.2⟩
          rw [if_neg e1, if_neg a2]
      rw [a1]
      omega
theorem mo_hold_unl {c l : Int} (hc : 1 ≤ c ∧ c < s.1 12) : mo_hold s l = mo_hold (mo_uf s 13 c 2) l + (if s.2.1 13 c = 1 then mo_h3 s l c 3 else 0) := by
  have e5 : (mo_uf s 13 c 2).2.1 5 = s.2.1 5 := mo_uf_o s (by decide) _ _
  have e7 : (mo_uf s 13 c 2).2.1 7 = s.2.1 7 := mo_uf_o s (by decide) _ _
  unfold mo_hold
  rw [mo_hk_cg e5 e7, mo_hs_unl hc.1, show (mo_uf s 13 c 2).1 12 = s.1 12 from rfl]
  have a1 : (if c ≤ (((s.1 12 - 1).toNat : Nat) : Int) ∧ s.2.1 13 c = 1 then mo_h3 s l c 3 else 0) = (if s.2.1 13 c = 1 then mo_h3 s l c 3 else 0) := by
    by_cases e1 : s.2.1 13 c = 1
    · rw [if_pos ⟨by omega, e1⟩, if_pos e1]
    · rw [if_neg (fun m => e1 m.2), if_neg e1]
  rw [a1]
  omega
/-- 1 if a = b -/
def cr_q (a b : Int) : Int := if a = b then 1 else 0
theorem cr_q_b (a b : Int) : 0 ≤ cr_q a b ∧ cr_q a b ≤ 1 := by unfold cr_q; split <;> omega
theorem cr_q_s (a : Int) : cr_q a a = 1 := if_pos rfl
theorem mo_h3_3 (l c : Int) : mo_h3 s l c 3 = cr_q (s.2.1 21 (3 * c)) l + cr_q (s.2.1 21 (3 * c + 1)) l + cr_q (s.2.1 21 (3 * c + 2)) l := by
  show 0 + (if s.2.1 21 (3 * c + ((0 : Nat) : Int)) = l then 1 else 0) + (if s.2.1 21 (3 * c + ((1 : Nat) : Int)) = l then 1 else 0) + (if s.2.1 21 (3 * c + ((2 : Nat) : Int)) = l then 1 else 0) = _
  rw [show 3 * c + ((0 : Nat) : Int) = 3 * c by omega, Int.zero_add]
  rfl
/-- what a row of letting go has come to -/
def cr_lg (G : aw_G) (x : Nat) (y : st_Y) (z : cr_Z) (J1 : aw_J) (s1 : mo_S) (pend : Int → Int) (g : Int) (J2 : aw_J) : Prop := ∃ D y2, mo_rv s1 D ∧ (∀ j, j ∈ D → pend j = 0) ∧ C0 G x y2 z J2 (mo_rml s1 D) ∧ cr_ag G cr_kGo (z 0 5) J1 J2 ∧ (yLo y2 = yLo y ∧ yDc y2 = yDc y) ∧ (∀ j, 0 ≤ j → j ≤ 40 → ¬ (mo_rml s1 D).2.1 5 j = 0 → yHo y2 j = mo_hold (mo_rml s1 D) j + pend j) ∧ (∀ j, 1 ≤ j → j ≤ 40 → ¬ (mo_rml s1 D).2.1 5 j = 0 → 0 < mo_hold (mo_rml s1 D) j + pend j) ∧ g = (D.length : Int)
theorem cr_lg.step {J1 J2 : aw_J} {s1 : mo_S} {pend pend' : Int → Int} {g l : Int} {n : Nat} (htg : aw_tg G) (h : cr_lg G x y z J1 s1 pend g J2) (hp : ∀ j, pend j = pend' j + cr_q l j) (hp0 : ∀ j, 0 ≤ pend' j ∧ pend' j ≤ 3) (hl : cr_ll s1 l) (hch : cr_ch s1.2 n l) (h50 : ¬ s1.2.1 5 0 = 0) (h26 : ∀ c, 0 ≤ c → c < s1.1 24 → 1 ≤ s1.2.1 26 c → 8 ≤ c) (h12 : 1 ≤ s1.1 12 ∧ s1.1 12 ≤ 12) (hq : ∀ g' J3, cr_lg G x y z J1 s1 pend' (g + g') J3 → Q (.inl (some (.int (iI g')))) J3) : aw_W G mT_letGo d Q 0 [some (.ref x), some (.ref (yLo y l)), none, none] [] J2 kc ks := by
  obtain ⟨D, y2, d1, d2, d3, d4, d5, d6, d7, d8⟩ := h
  have hm := mo_rv_m D s1 d1
  have o := mo_rml_o D s1
  have lD : l ∉ D := fun m => by
    have := d2 l m
    rw [hp, cr_q_s] at this
    have := (hp0 l).1
    omega
  have lv : cr_ll (mo_rml s1 D) l := ⟨hl.1, by rw [mo_rml_5, if_neg lD]; exact hl.2⟩
  refine sp_letGo_0 ?_
  rw [← d5.1]
  refine cx_letGo_l (pend := pend') htg hp0 n l (mo_rml s1 D) y2 J2 0 d3 (cr_ch_rml D s1 n l d1 h12 hch (Or.inr lv.2)) lv ?_ (fun c c1 c2 c3 => ?_) (by rw [o.1]; exact h12) (fun j j1 j2 j3 => ?_) (fun j j1 j2 j3 => ?_) (fun D' y3 J3 q1 q0 q2 q3 q4 q5 q6 => ?_)
  · rw [mo_rml_5, if_neg (fun m => absurd (hm 0 m).1.1 (by decide))]
    exact h50
  · rw [o.1] at c2
    rw [mo_rml_26 D s1 (fun j hj => (hm j hj).1.1)] at c3
    split at c3
    · omega
    · exact h26 c c1 c2 c3
  · rw [d6 j j1 j2 j3, hp]
    unfold cr_q
    by_cases e : j = l
    · rw [if_pos e.symm, if_pos e]; omega
    · rw [if_neg (fun m => e m.symm), if_neg e]; omega
  · have := d7 j j1 j2 j3
    rw [hp] at this
    by_cases e : j = l
    · exact Or.inr e
    · unfold cr_q at this
      rw [if_neg (fun m => e m.symm)] at this
      exact Or.inl (by omega)
  · rw [Int.zero_add]
    rw [← mo_rml_app] at q2 q5 q6
    refine hq _ J3 ⟨D ++ D', y3, mo_rv_app D D' s1 d1 q1, fun j hj => ?_, q2, d4.tr q3, ⟨q4.1.trans d5.1, q4.2.trans d5.2⟩, q5, q6, ?_⟩
    · rcases List.mem_append.mp hj with k | k
      · have a := d2 j k
        rw [hp] at a
        have b := (hp0 j).1
        have c := cr_q_b l j
        omega
      · exact q0 j k
    · rw [List.length_append, d8]
      omega
theorem cx_release {c : Int} (htg : aw_tg G) (hkc : 2 ≤ kc) (hks : 12 ≤ ks) (h : CR G x y z J s) (h12 : 1 ≤ s.1 12 ∧ s.1 12 ≤ 12) (h13 : ∀ i, 0 ≤ i → i < s.1 12 → 0 ≤ s.2.1 13 i ∧ s.2.1 13 i ≤ 2) (h14 : ∀ i, 1 ≤ i → i < s.1 12 → 0 ≤ s.2.1 14 i ∧ s.2.1 14 i < i) (h21 : ∀ i, 0 ≤ i → i < s.1 12 → s.2.1 13 i = 1 → ∀ k, 0 ≤ k → k < 3 → cr_ll s (s.2.1 21 (3 * i + k))) (hch : ∀ l, cr_ll s l → ∃ n, cr_ch s.2 n l) (h50 : ¬ s.2.1 5 0 = 0) (h26 : ∀ c, 0 ≤ c → c < s.1 24 → 1 ≤ s.2.1 26 c → 8 ≤ c) (hnm : mo_nm s) (hi : iB c) (hbad : ¬ (1 ≤ c ∧ c < s.1 12) → Q (.inr "java/lang/IllegalArgumentException") J) (hst : 1 ≤ c ∧ c < s.1 12 → (s.2.1 13 c = 2 ∨ (∃ i, 1 ≤ i ∧ i < s.1 12 ∧ s.2.1 14 i = c ∧ ¬ s.2.1 13 i = 2)) → Q (.inr "java/lang/IllegalStateException") J) (hok : 1 ≤ c ∧ c < s.1 12 → ¬ s.2.1 13 c = 2 → ¬ (∃ i, 1 ≤ i ∧ i < s.1 12 ∧ s.2.1 14 i = c ∧ ¬ s.2.1 13 i = 2) → ∀ D, mo_rv (mo_uf s 13 c 2) D → mo_nm (mo_rml (mo_uf s 13 c 2) D) → ∀ J', cr_to G x z J (mo_rml (mo_uf s 13 c 2) D) J' → Q (.inl (some (.int (iI (D.length : Int))))) J') : aw_W G mT_release (d + 1 + 1) Q 0 [some (.ref x), some (.int (iI c)), none, none] [] J kc ks := by
  obtain ⟨⟨cS, c1, c2⟩, c3⟩ := h.1.2.2.2.2.1
  have h7 := h.1.2.2.2.2.2.1
  have cR : ∀ i, ∃ r : Option Nat × Option Nat × Option Nat, 0 ≤ i → i < s.1 12 → st_S J (z 1 i) (if i = 0 then none else some (z 1 (s.2.1 14 i))) (z 2 i) (z 4 i) (if s.2.1 17 i = 0 then none else some (z 7 i)) (G.2.2.2.1 (s.2.1 13 i).toNat) r.1 r.2.1 r.2.2 (z 6 i) (s.2.1 23 i) ∧ cr_k3 s.2 y i r.1 r.2.1 r.2.2 := by
    intro i
    by_cases gi : 0 ≤ i ∧ i < s.1 12
    · obtain ⟨⟨r1, r2, r3, s1, s2⟩, -⟩ := c3 i gi.1 gi.2
      exact ⟨(r1, r2, r3), fun _ _ => ⟨s1, s2⟩⟩
    · exact ⟨(none, none, none), fun q1 q2 => absurd ⟨q1, q2⟩ gi⟩
  obtain ⟨r, hr⟩ := Classical.axiomOfChoice cR
  by_cases g : 0 ≤ c ∧ c < s.1 12
  · have b13 := h13 c g.1 g.2
    have hrc := hr c g.1 g.2
    have ex : (∃ j, 0 ≤ j ∧ j < s.1 12 ∧ (if j = 0 then none else some (z 1 (s.2.1 14 j))) = some (z 1 c) ∧ ¬ (s.2.1 13 j).toNat = 2) ↔ (∃ i, 1 ≤ i ∧ i < s.1 12 ∧ s.2.1 14 i = c ∧ ¬ s.2.1 13 i = 2) := by
      constructor
      · rintro ⟨j, j1, j2, j3, j4⟩
        by_cases j0 : j = 0
        · rw [if_pos j0] at j3; cases j3
        · rw [if_neg j0] at j3
          have b := h14 j (by omega) j2
          have := h13 j j1 j2
          exact ⟨j, by omega, j2, h7.1 _ _ b.1 (by omega) g.1 g.2 (Or.inl (Option.some.inj j3)), by omega⟩
      · rintro ⟨j, j1, j2, j3, j4⟩
        refine ⟨j, by omega, j2, ?_, by have := h13 j (by omega) j2; omega⟩
        rw [if_neg (by omega), j3]
    have c0 : (if c = 0 then none else some (z 1 (s.2.1 14 c))) = none ↔ c = 0 := by
      by_cases e : c = 0
      · rw [if_pos e]; exact ⟨fun _ => e, fun _ => rfl⟩
      · rw [if_neg e]; exact ⟨fun m => (by cases m), fun m => absurd m e⟩
    have E : ∀ f, f ≠ 13 → (mo_uf s 13 c 2).2.1 f = s.2.1 f := fun f hf => mo_uf_o s hf _ _
    have E13 : ∀ p, (mo_uf s 13 c 2).2.1 13 p = if p = c then 2 else s.2.1 13 p := by
      intro p
      rw [mo_uf_2]
      simp only [true_and]
    have chh : ∀ n l, cr_ch s.2 n l → cr_ch (mo_uf s 13 c 2).2 n l := by
      intro n
      induction n with
      | zero => exact fun l h => h
      | succ n ih =>
        intro l h
        rcases h with h | ⟨h1, h2, h3⟩
        · exact Or.inl h
        · exact Or.inr ⟨h1, by rw [E 5 (by decide)]; exact h2, by rw [E 7 (by decide)]; exact ih _ h3⟩
    have hun := fun l (hc : 1 ≤ c) => mo_hold_unl (s := s) (c := c) (l := l) ⟨hc, g.2⟩
    have o : ∀ b e, J b = some e → b ≠ z 1 c → aw_up J (z 1 c) (.inr (6, [va_rf (if c = 0 then none else some (z 1 (s.2.1 14 c))), .ref (z 2 c), .ref (z 4 c), va_rf (if s.2.1 17 c = 0 then none else some (z 7 c)), .ref (G.2.2.2.1 2), va_rf (r c).1, va_rf (r c).2.1, va_rf (r c).2.2, .ref (z 6 c), .int (iI (s.2.1 23 c))])) b = some e := fun b e h1 h2 => (aw_up_n h2).trans h1
    have jc : aw_up J (z 1 c) (.inr (6, [va_rf (if c = 0 then none else some (z 1 (s.2.1 14 c))), .ref (z 2 c), .ref (z 4 c), va_rf (if s.2.1 17 c = 0 then none else some (z 7 c)), .ref (G.2.2.2.1 2), va_rf (r c).1, va_rf (r c).2.1, va_rf (r c).2.2, .ref (z 6 c), .int (iI (s.2.1 23 c))])) (z 1 c) = some (.inr (6, [va_rf (if c = 0 then none else some (z 1 (s.2.1 14 c))), .ref (z 2 c), .ref (z 4 c), va_rf (if s.2.1 17 c = 0 then none else some (z 7 c)), .ref (G.2.2.2.1 2), va_rf (r c).1, va_rf (r c).2.1, va_rf (r c).2.2, .ref (z 6 c), .int (iI (s.2.1 23 c))])) := aw_up_s
    generalize hJ1 : aw_up J (z 1 c) (.inr (6, [va_rf (if c = 0 then none else some (z 1 (s.2.1 14 c))), .ref (z 2 c), .ref (z 4 c), va_rf (if s.2.1 17 c = 0 then none else some (z 7 c)), .ref (G.2.2.2.1 2), va_rf (r c).1, va_rf (r c).2.1, va_rf (r c).2.2, .ref (z 6 c), .int (iI (s.2.1 23 c))])) = J1 at o jc
    have sc : C0 G x y z J1 (mo_uf s 13 c 2) ∧ cr_ag G cr_kSc (z 0 5) J J1 := by
      obtain ⟨-, ⟨P1, p1, p2⟩, ⟨P2, p3, p4⟩, ff, ap, ha⟩ := c3 c g.1 g.2
      have s1 := hrc.1
      have := C0.scope (w := z 0 5) (s' := mo_uf s 13 c 2) (J1 := J1) (i := c) (q := z 7 c) htg h.1 g (fun b e h1 h2 _ _ _ _ _ => o b e h1 h2) rfl rfl (fun f hf => E f (by omega)) ⟨rfl, rfl⟩ ?_ ?_
      · rw [cr_z7_id] at this
        exact this
      · intro j hj
        refine ⟨⟨by rw [E13, if_neg hj], by rw [E 14 (by decide)], by rw [E 16 (by decide)], by rw [E 16 (by decide)], by rw [E 17 (by decide)], by rw [E 18 (by decide)], rfl, rfl, by rw [E 23 (by decide)]⟩, fun k _ _ => by rw [E 15 (by decide)], fun k _ _ => by rw [E 22 (by decide)], fun k _ _ => by rw [E 21 (by decide)]⟩
      · rw [cr_z7_id]
        unfold cr_S1 cr_k3
        rw [E13, if_pos rfl, E 14 (by decide), E 15 (by decide), E 16 (by decide), E 17 (by decide), E 18 (by decide), E 22 (by decide), E 23 (by decide)]
        exact ⟨⟨(r c).1, (r c).2.1, (r c).2.2, jc, fun m => absurd m (by decide)⟩, ⟨P1, ⟨o _ _ p1.1 (aw_ne p1.1 s1 (fun m => by cases m)), o _ _ p1.2.1 (aw_ne p1.2.1 s1 (fun m => by cases m)), p1.2.2⟩, p2⟩, ⟨P2, ⟨o _ _ p3.1 (aw_ne p3.1 s1 (fun m => by cases m)), o _ _ p3.2.1 (aw_ne p3.2.1 s1 (fun m => by cases m)), p3.2.2⟩, p4⟩, fun q => o _ _ (ff q) (aw_ne (ff q) s1 (fun m => by cases m)), ap, o _ _ ha.1 (aw_ne ha.1 s1 (fun m => by cases m)), ha.2⟩
    have fin : ∀ gg J4, 1 ≤ c → ¬ s.2.1 13 c = 2 → ¬ (∃ i, 1 ≤ i ∧ i < s.1 12 ∧ s.2.1 14 i = c ∧ ¬ s.2.1 13 i = 2) → cr_lg G x y z J1 (mo_uf s 13 c 2) (fun _ => 0) gg J4 → Q (.inl (some (.int (iI gg)))) J4 := by
      intro gg J4 hc1 h2 hx ⟨D, y4, d1, d2, d3, d4, d5, d6, d7, d8⟩
      rw [d8]
      refine hok ⟨hc1, g.2⟩ h2 hx D d1 (fun j j1 j2 j3 => by have m : 0 < mo_hold (mo_rml (mo_uf s 13 c 2) D) j + 0 := d7 j j1 j2 j3; omega) J4 ⟨y4, z, ⟨d3, fun j j1 j2 j3 => ⟨by rw [d6 j j1 j2 j3, Int.add_zero], ?_⟩⟩, rfl, (sc.2.wd cr_kSc_C).tr (d4.wd cr_kGo_C)⟩
      have hm := mo_rv_m D _ d1
      have oo := mo_rml_o D (mo_uf s 13 c 2)
      have jD : j ∉ D := fun m => j3 (by rw [mo_rml_5, if_pos m])
      rw [mo_rml_5, if_neg jD, E 5 (by decide)] at j3
      rw [oo.1, mo_dc_rml (fun j hj => (hm j hj).1.1) j1 jD, E 26 (by decide), d5.2]
      exact (h.2 j j1 j2 j3).2
    refine sp_release (Sc := z 1) (lp := z 2) (ep := z 4) (aa := z 6) (k := fun i => (s.2.1 13 i).toNat) (rp := fun i => if i = 0 then none else some (z 1 (s.2.1 14 i))) (rf := fun i => if s.2.1 17 i = 0 then none else some (z 7 i)) (r1 := fun i => (r i).1) (r2 := fun i => (r i).2.1) (r3 := fun i => (r i).2.2) (na := s.2.1 23) (e1 := yLo y (s.2.1 21 (3 * c))) (e2 := yLo y (s.2.1 21 (3 * c + 1))) (e3 := yLo y (s.2.1 21 (3 * c + 2))) (P3 := fun gg J2 => (1 ≤ c ∧ s.2.1 13 c = 1 ∧ ¬ (∃ i, 1 ≤ i ∧ i < s.1 12 ∧ s.2.1 14 i = c ∧ ¬ s.2.1 13 i = 2)) ∧ cr_lg G x y z J1 (mo_uf s 13 c 2) (fun j => cr_q (s.2.1 21 (3 * c)) j + cr_q (s.2.1 21 (3 * c + 1)) j) gg J2) (P2 := fun g3 g2 J3 => (1 ≤ c ∧ s.2.1 13 c = 1 ∧ ¬ (∃ i, 1 ≤ i ∧ i < s.1 12 ∧ s.2.1 14 i = c ∧ ¬ s.2.1 13 i = 2)) ∧ cr_lg G x y z J1 (mo_uf s 13 c 2) (fun j => cr_q (s.2.1 21 (3 * c)) j) (g3 + g2) J3) (P1 := fun gg g1 J4 => (1 ≤ c ∧ s.2.1 13 c = 1 ∧ ¬ (∃ i, 1 ≤ i ∧ i < s.1 12 ∧ s.2.1 14 i = c ∧ ¬ s.2.1 13 i = 2)) ∧ cr_lg G x y z J1 (mo_uf s 13 c 2) (fun _ => 0) (gg + g1) J4) hkc hks h.1.1 c1 (by omega) (fun i i1 i2 => ⟨c2 i i1 i2, by have := h13 i i1 i2; omega, (hr i i1 i2).1⟩) hi (fun q => hbad (fun q2 => q ⟨g, fun m => by have := c0.mp m; omega⟩)) (fun q q2 => hst ⟨?_, g.2⟩ ?_) (fun q q2 q3 => ?_) (fun q q2 => ?_) (fun q q2 q3 => ?_) (fun g3 J2 hP => ?_) (fun g3 g2 J3 hP => ?_) (fun g3 g1 J4 hP => ?_)
    · have : c ≠ 0 := fun m => q.2 (c0.mpr m)
      omega
    · rcases q2 with k | k
      · exact Or.inl (by have : (s.2.1 13 c).toNat = 2 := k; omega)
      · exact Or.inr (ex.mp k)
    · have hc1 : 1 ≤ c := by have : c ≠ 0 := fun m => q.2 (c0.mpr m); omega
      have k0 : s.2.1 13 c = 0 := by have : (s.2.1 13 c).toNat = 0 := q2; omega
      rw [hJ1]
      refine fin 0 J1 hc1 (by omega) (fun m => q3 (ex.mpr m)) ⟨[], y, trivial, fun _ _ => rfl, sc.1, cr_ag.rf, ⟨rfl, rfl⟩, fun j j1 j2 j3 => ?_, fun j j1 j2 j3 => ?_, rfl⟩
      · have j3 : ¬ (mo_uf s 13 c 2).2.1 5 j = 0 := j3
        rw [E 5 (by decide)] at j3
        have a := hun j hc1
        rw [if_neg (by omega)] at a
        show yHo y j = mo_hold (mo_uf s 13 c 2) j + 0
        rw [(h.2 j j1 j2 j3).1]
        omega
      · have j3 : ¬ (mo_uf s 13 c 2).2.1 5 j = 0 := j3
        rw [E 5 (by decide)] at j3
        have a := hun j hc1
        rw [if_neg (by omega)] at a
        have b := hnm j j1 j2 j3
        show 0 < mo_hold (mo_uf s 13 c 2) j + 0
        omega
    · have hc1 : 1 ≤ c := by have : c ≠ 0 := fun m => q.2 (c0.mpr m); omega
      have k1 : s.2.1 13 c = 1 := by have : (s.2.1 13 c).toNat = 1 := q2; omega
      have m := hrc.2 k1
      exact ⟨m.1 hc1, m.2.1, m.2.2⟩
    · intro Q' hQ'
      have hc1 : 1 ≤ c := by have : c ≠ 0 := fun m => q.2 (c0.mpr m); omega
      have k1 : s.2.1 13 c = 1 := by have : (s.2.1 13 c).toNat = 1 := q2; omega
      have L2 := h21 c g.1 g.2 k1 2 (by decide) (by decide)
      obtain ⟨n, hn⟩ := hch _ L2
      have ll : ∀ l, cr_ll s l → cr_ll (mo_uf s 13 c 2) l := fun l hl => ⟨hl.1, by rw [E 5 (by decide)]; exact hl.2⟩
      have k := cr_lg.step (Q := Q') (d := d + 1) (kc := 0) (ks := 0) (g := 0) (J1 := J1) (J2 := J1) (s1 := mo_uf s 13 c 2) (y := y) (l := s.2.1 21 (3 * c + 2)) (pend := fun j => cr_q (s.2.1 21 (3 * c)) j + cr_q (s.2.1 21 (3 * c + 1)) j + cr_q (s.2.1 21 (3 * c + 2)) j) (pend' := fun j => cr_q (s.2.1 21 (3 * c)) j + cr_q (s.2.1 21 (3 * c + 1)) j) htg ⟨[], y, trivial, fun j hj => absurd hj List.not_mem_nil, sc.1, cr_ag.rf, ⟨rfl, rfl⟩, fun j j1 j2 j3 => ?_, fun j j1 j2 j3 => ?_, rfl⟩ (fun _ => rfl) (fun j => by have a := cr_q_b (s.2.1 21 (3 * c)) j; have b := cr_q_b (s.2.1 21 (3 * c + 1)) j; omega) (ll _ L2) (chh n _ hn) (by rw [E 5 (by decide)]; exact h50) (fun c' q1 q2 q3 => h26 c' q1 q2 (by rw [E 26 (by decide)] at q3; exact q3)) h12 (fun g' J3 q4 => hQ' g' J3 ⟨⟨hc1, k1, fun m => q3 (ex.mpr m)⟩, by rw [Int.zero_add] at q4; exact q4⟩)
      · rw [hJ1]; exact k
      · have j3 : ¬ (mo_uf s 13 c 2).2.1 5 j = 0 := j3
        rw [E 5 (by decide)] at j3
        have a := hun j hc1
        rw [if_pos k1, mo_h3_3] at a
        show yHo y j = mo_hold (mo_uf s 13 c 2) j + (cr_q (s.2.1 21 (3 * c)) j + cr_q (s.2.1 21 (3 * c + 1)) j + cr_q (s.2.1 21 (3 * c + 2)) j)
        rw [(h.2 j j1 j2 j3).1]
        omega
      · have j3 : ¬ (mo_uf s 13 c 2).2.1 5 j = 0 := j3
        rw [E 5 (by decide)] at j3
        have a := hun j hc1
        rw [if_pos k1, mo_h3_3] at a
        have b := hnm j j1 j2 j3
        show 0 < mo_hold (mo_uf s 13 c 2) j + (cr_q (s.2.1 21 (3 * c)) j + cr_q (s.2.1 21 (3 * c + 1)) j + cr_q (s.2.1 21 (3 * c + 2)) j)
        omega
    · obtain ⟨hc, hP⟩ := hP
      have L2 := h21 c g.1 g.2 hc.2.1 1 (by decide) (by decide)
      obtain ⟨n, hn⟩ := hch _ L2
      have jx := o _ _ h.1.1 (aw_ne h.1.1 hrc.1 (fun m => by cases m))
      have d4 : cr_ag G cr_kGo (z 0 5) J1 J2 := by
        obtain ⟨D, y2, d1, d2, d3, d4, -⟩ := hP
        exact d4
      refine ⟨⟨d4.o jc rfl, (d4.o jx rfl).trans h.1.1.symm⟩, fun Q' hQ' => ?_⟩
      have ll : cr_ll (mo_uf s 13 c 2) (s.2.1 21 (3 * c + 1)) := ⟨L2.1, by rw [E 5 (by decide)]; exact L2.2⟩
      exact cr_lg.step (pend' := fun j => cr_q (s.2.1 21 (3 * c)) j) htg hP (fun _ => rfl) (fun j => by have a := cr_q_b (s.2.1 21 (3 * c)) j; omega) ll (chh n _ hn) (by rw [E 5 (by decide)]; exact h50) (fun c' q1 q2 q3 => h26 c' q1 q2 (by rw [E 26 (by decide)] at q3; exact q3)) h12 (fun g' J3 q4 => hQ' g' J3 ⟨hc, q4⟩)
    · obtain ⟨hc, hP⟩ := hP
      have L2 := h21 c g.1 g.2 hc.2.1 0 (by decide) (by decide)
      obtain ⟨n, hn⟩ := hch _ L2
      have jx := o _ _ h.1.1 (aw_ne h.1.1 hrc.1 (fun m => by cases m))
      have d4 : cr_ag G cr_kGo (z 0 5) J1 J3 := by
        obtain ⟨D, y2, d1, d2, d3, d4, -⟩ := hP
        exact d4
      rw [Int.add_zero] at L2 hn
      refine ⟨⟨d4.o jc rfl, (d4.o jx rfl).trans h.1.1.symm⟩, fun Q' hQ' => ?_⟩
      have ll : cr_ll (mo_uf s 13 c 2) (s.2.1 21 (3 * c)) := ⟨L2.1, by rw [E 5 (by decide)]; exact L2.2⟩
      exact cr_lg.step (pend' := fun _ => 0) htg hP (fun j => (Int.zero_add _).symm) (fun j => by decide) ll (chh n _ hn) (by rw [E 5 (by decide)]; exact h50) (fun c' q1 q2 q3 => h26 c' q1 q2 (by rw [E 26 (by decide)] at q3; exact q3)) h12 (fun g' J3 q4 => hQ' g' J3 ⟨hc, q4⟩)
    · have := hP.1
      exact fin _ J4 this.1 (by omega) this.2.2 hP.2
  · exact sp_release (Sc := z 1) (lp := z 2) (ep := z 4) (aa := z 6) (k := fun i => (s.2.1 13 i).toNat) (rp := fun i => if i = 0 then none else some (z 1 (s.2.1 14 i))) (rf := fun i => if s.2.1 17 i = 0 then none else some (z 7 i)) (r1 := fun i => (r i).1) (r2 := fun i => (r i).2.1) (r3 := fun i => (r i).2.2) (na := s.2.1 23) (e1 := 0) (e2 := 0) (e3 := 0) (P3 := fun _ _ => False) (P2 := fun _ _ _ => False) (P1 := fun _ _ _ => False) hkc hks h.1.1 c1 (by omega) (fun i i1 i2 => ⟨c2 i i1 i2, by have := h13 i i1 i2; omega, (hr i i1 i2).1⟩) hi (fun _ => hbad (by omega)) (fun q => absurd q.1 g) (fun q => absurd q.1 g) (fun q => absurd q.1 g) (fun q => absurd q.1 g) (fun _ _ q => q.elim) (fun _ _ _ q => q.elim) (fun _ _ _ q => q.elim)
end CR11
