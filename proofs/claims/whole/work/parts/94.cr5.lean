/-! what holds of every state; a loader more -/
section CR12
variable {G : aw_G} {J : aw_J} {d kc ks : Nat} {Q : aw_O → aw_J → Prop} {x : Nat} {y : st_Y} {z : cr_Z} {s s' : mo_S}
def iv_s (s : mo_S) (i : Int) : Prop := (0 ≤ s.2.1 13 i ∧ s.2.1 13 i ≤ 2) ∧ (1 ≤ i → 0 ≤ s.2.1 14 i ∧ s.2.1 14 i < i) ∧ (∀ w, w = 0 ∨ w = 1 → (0 ≤ s.2.1 16 (2 * i + w) ∧ s.2.1 16 (2 * i + w) ≤ 4) ∧ ∀ k, 0 ≤ k → k < s.2.1 16 (2 * i + w) → 0 ≤ s.2.1 15 (8 * i + 4 * w + k) ∧ s.2.1 15 (8 * i + 4 * w + k) ≤ 9) ∧ ((0 ≤ s.2.1 23 i ∧ s.2.1 23 i ≤ 8) ∧ ∀ k, 0 ≤ k → k < s.2.1 23 i → (0 ≤ s.2.1 22 (8 * i + k) ∧ s.2.1 22 (8 * i + k) < s.1 24) ∧ mo_dsc (s.2.1 28) (s.2.1 22 (8 * i + k)) 1) ∧ (s.2.1 13 i = 1 → ∀ k, 0 ≤ k → k < 3 → cr_ll s (s.2.1 21 (3 * i + k)))
def iv_t (s : mo_S) (c : Int) : Prop := (-1 ≤ s.2.1 26 c) ∧ (0 ≤ s.2.1 26 c → cr_ll s (s.2.1 26 c)) ∧ (c < 8 → s.2.1 26 c = 0)
def Iv0 (s : mo_S) : Prop := (1 ≤ s.1 12 ∧ s.1 12 ≤ 12) ∧ (8 ≤ s.1 24 ∧ s.1 24 ≤ 120) ∧ mo_SL s ∧ mo_ku s.2 (s.1 24) ∧ (∀ c, 0 ≤ c → c < s.1 24 → -1 ≤ s.2.1 28 c ∧ s.2.1 28 c < c) ∧ (¬ s.2.1 5 0 = 0 ∧ s.2.1 6 0 = 0 ∧ s.2.1 7 0 = -1 ∧ s.2.1 8 0 = 0) ∧ (∀ l, cr_ll s l → ∃ n, cr_ch s.2 n l) ∧ (∀ i, 0 ≤ i → i < s.1 12 → iv_s s i) ∧ (∀ c, 0 ≤ c → c < s.1 24 → iv_t s c) ∧ (∀ k, cr_lv s.2 k → ∀ j, 0 ≤ j → j < s.2.1 3 k → s.2.1 4 (8 * k + 2 * j + 1) ≤ 63) ∧ (∀ i, s.1 12 ≤ i → i ≤ 11 → s.2.1 13 i = 0 ∧ s.2.1 16 (2 * i) = 0 ∧ s.2.1 16 (2 * i + 1) = 0 ∧ s.2.1 17 i = 0 ∧ s.2.1 23 i = 0) ∧ s.2.1 13 0 = 1
/-- no loader has to go; scope 0 holds the root -/
def iv_nm (s : mo_S) : Prop := mo_nm s ∧ ∀ k, 0 ≤ k → k < 3 → s.2.1 21 k = 0
def Iv (s : mo_S) : Prop := Iv0 s ∧ iv_nm s
/-- the parent of a loader that is there is there -/
theorem Iv0.up (h : Iv0 s) {l : Int} (hl : 1 ≤ l ∧ l ≤ 40) (h5 : ¬ s.2.1 5 l = 0) : cr_ll s (s.2.1 7 l) := by
  obtain ⟨n, hn⟩ := h.2.2.2.2.2.2.1 l ⟨⟨by omega, hl.2⟩, h5⟩
  have r := h.2.2.2.2.2.1.1
  cases n with
  | zero => have : l = 0 := hn; omega
  | succ n =>
    rcases hn with e | ⟨e1, e2, e3⟩
    · omega
    · cases n with
      | zero => have : s.2.1 7 l = 0 := e3; rw [this]; exact ⟨by decide, r⟩
      | succ n =>
        rcases e3 with e | ⟨f1, f2, f3⟩
        · rw [e]; exact ⟨by decide, r⟩
        · exact ⟨⟨by omega, f1.2⟩, f2⟩
theorem mo_hold_dead {l : Int} (h1 : 1 ≤ l) (hk : ∀ j, 1 ≤ j → j ≤ 40 → ¬ s.2.1 5 j = 0 → ¬ s.2.1 7 j = l) (hs : ∀ i, 1 ≤ i → i < s.1 12 → s.2.1 13 i = 1 → ∀ k, 0 ≤ k → k < 3 → ¬ s.2.1 21 (3 * i + k) = l) : mo_hold s l = 0 := by
  have a : ∀ n : Nat, n ≤ 40 → mo_hk s l n = 0 := by
    intro n
    induction n with
    | zero => exact fun _ => rfl
    | succ n ih =>
      intro hn
      rw [mo_hk, ih (by omega)]
      have a1 : ¬ (s.2.1 5 ((n : Int) + 1) ≠ 0 ∧ s.2.1 7 ((n : Int) + 1) = l) := fun e => hk _ (by omega) (by omega) e.1 e.2
      rw [if_neg a1]; rfl
  have b : ∀ n : Nat, (n : Int) < s.1 12 → mo_hs s l n = 0 := by
    intro n
    induction n with
    | zero => exact fun _ => rfl
    | succ n ih =>
      intro hn
      rw [mo_hs, ih (by omega)]
      by_cases e : s.2.1 13 ((n : Int) + 1) = 1
      · rw [if_pos e, mo_h3_3]
        have q := hs ((n : Int) + 1) (by omega) (by omega) e
        have q0 := q 0 (by decide) (by decide)
        rw [Int.add_zero] at q0
        unfold cr_q
        rw [if_neg q0, if_neg (q 1 (by decide) (by decide)), if_neg (q 2 (by decide) (by decide))]
        rfl
      · rw [if_neg e]; rfl
  unfold mo_hold
  rw [if_neg (by omega), a 40 (by decide)]
  by_cases e : 1 ≤ s.1 12
  · rw [b _ (by omega)]; rfl
  · rw [show (s.1 12 - 1).toNat = 0 by omega]; rfl
theorem Iv0.dead (h : Iv0 s) {l : Int} (h1 : 1 ≤ l) (h5 : s.2.1 5 l = 0) : mo_hold s l = 0 := by
  refine mo_hold_dead h1 (fun j j1 j2 j3 j4 => ?_) (fun i i1 i2 i3 k k1 k2 e => ?_)
  · have := (h.up ⟨j1, j2⟩ j3).2
    rw [j4] at this
    exact this h5
  · have := ((h.2.2.2.2.2.2.2.1 i (by omega) i2).2.2.2.2 i3 k k1 k2).2
    rw [e] at this
    exact this h5
theorem mo_hk_more {l k p n j : Int} (hm : mo_more s s' l k p n) (N : Nat) : mo_hk s' j N = mo_hk s j N + (if l ≤ (N : Int) ∧ p = j then 1 else 0) := by
  have hl := hm.1.1
  induction N with
  | zero =>
    have a1 : ¬ (l ≤ ((0 : Nat) : Int) ∧ p = j) := fun e => absurd e.1 (by omega)
    rw [mo_hk, mo_hk, if_neg a1]; rfl
  | succ N ih =>
    rw [mo_hk, mo_hk, ih, hm.2.1]
    by_cases e : (N : Int) + 1 = l
    · have a1 : ¬ (l ≤ (N : Int) ∧ p = j) := fun m => absurd m.1 (by omega)
      have a2 : ¬ (s.2.1 5 ((N : Int) + 1) ≠ 0 ∧ s.2.1 7 ((N : Int) + 1) = j) := fun m => m.1 (by rw [e]; exact hm.1.2.1)
      rw [if_neg a1, if_pos e, if_neg a2, e, hm.2.2.2.1.2.1]
      by_cases ej : p = j
      · have a3 : (1 : Int) ≠ 0 ∧ p = j := ⟨by decide, ej⟩
        have a4 : l ≤ ((N + 1 : Nat) : Int) ∧ p = j := ⟨by omega, ej⟩
        rw [if_pos a3, if_pos a4]
      · have a3 : ¬ ((1 : Int) ≠ 0 ∧ p = j) := fun m => ej m.2
        have a4 : ¬ (l ≤ ((N + 1 : Nat) : Int) ∧ p = j) := fun m => ej m.2
        rw [if_neg a3, if_neg a4]
    · rw [if_neg e, (hm.2.2.1 _ e).2.1]
      have a1 : (if l ≤ (N : Int) ∧ p = j then (1 : Int) else 0) = (if l ≤ ((N + 1 : Nat) : Int) ∧ p = j then 1 else 0) := by
        by_cases e1 : l ≤ (N : Int) ∧ p = j
        · have a2 : l ≤ ((N + 1 : Nat) : Int) ∧ p = j := ⟨by omega, e1.2⟩
          rw [if_pos e1, if_pos a2]
        · have a2 : ¬ (l ≤ ((N + 1 : Nat) : Int) ∧ p = j) := fun m => e1 ⟨by omega, m.2⟩
          rw [if_neg e1, if_neg a2]
      rw [a1]
      omega
theorem mo_hold_more {l k p n j : Int} (hm : mo_more s s' l k p n) : mo_hold s' j = mo_hold s j + (if p = j then 1 else 0) := by
  have hl := hm.1.1
  unfold mo_hold
  rw [mo_hk_more hm, mo_hs_cg (s := s) (hm.2.2.2.2.2.1 13 (by decide)).1 (hm.2.2.2.2.2.1 21 (by decide)).1, hm.2.2.2.2.2.2]
  have a1 : (if l ≤ ((40 : Nat) : Int) ∧ p = j then (1 : Int) else 0) = (if p = j then 1 else 0) := by
    by_cases e : p = j
    · have a2 : l ≤ ((40 : Nat) : Int) ∧ p = j := ⟨by omega, e⟩
      rw [if_pos a2, if_pos e]
    · have a2 : ¬ (l ≤ ((40 : Nat) : Int) ∧ p = j) := fun m => e m.2
      rw [if_neg a2, if_neg e]
  rw [a1]
  omega
def cr_s1 {α : Type} (f : Int → α) (l : Int) (v : α) : Int → α := fun j => if j = l then v else f j
def cr_sN {α : Type} (f : Int → α) (l : Int) (g : Int → α) : Int → α := fun k => if 10 + 4 * l ≤ k ∧ k < 14 + 4 * l then g (k - (10 + 4 * l)) else f k
theorem cr_s1_y {α : Type} (f : Int → α) (l : Int) (v : α) : cr_s1 f l v l = v := if_pos rfl
theorem cr_s1_n {α : Type} (f : Int → α) {l j : Int} (v : α) (h : j ≠ l) : cr_s1 f l v j = f j := if_neg h
theorem cr_sN_y {α : Type} (f : Int → α) (l : Int) (g : Int → α) {i : Int} (h0 : 0 ≤ i) (h4 : i < 4) : cr_sN f l g (10 + 4 * l + i) = g i := by
  unfold cr_sN
  rw [if_pos (by omega), show 10 + 4 * l + i - (10 + 4 * l) = i by omega]
theorem cr_sN_n {α : Type} (f : Int → α) {l k : Int} (g : Int → α) (h : ¬ (10 + 4 * l ≤ k ∧ k < 14 + 4 * l)) : cr_sN f l g k = f k := if_neg h
abbrev cr_yN (y : st_Y) (l : Int) (q ca : Nat) (rf : Option Nat) (Ho : Int → Int) (B fB dB : Int → Nat) (CF CD : Int → Nat → Option Nat) : st_Y := (cr_s1 (yLo y) l q, cr_s1 (yCa y) l ca, cr_s1 (yRf y) l rf, Ho, cr_s1 (yDc y) l 0, cr_sN (yA y) l B, cr_sN (yFA y) l fB, cr_sN (yDA y) l dB, cr_sN (yCF y) l CF, cr_sN (yCD y) l CD)
/-- a loader more -/
theorem CR.more {cL : Nat → Option Nat} {l kd p n : Int} {q ca : Nat} {rf : Option Nat} {B fB dB : Int → Nat} {CF CD : Int → Nat → Option Nat} (htg : aw_tg G) (h : CR G x y z J s) (hI : Iv0 s) (hm : mo_more s s' l kd p n) (hp : cr_ll s p) (hn : 0 ≤ n ∧ n ≤ 4) (hcL : J (z 0 2) = some (.inl (G.2.2.1 5, 41, .inr (.inr (.inr (.inr cL)))))) (hcl : ∀ j, 0 ≤ j → j ≤ 40 → (s.2.1 5 j = 0 → cL j.toNat = none) ∧ (¬ s.2.1 5 j = 0 → cL j.toNat = some (yLo y j))) (hq : J q = none) (hB : cr_LB G J s'.2 (cr_yN y l q ca rf (cr_u1 (cr_s1 (yHo y) l 0) p (yHo y p + 1)) B fB dB CF CD) l) (hfr : ∀ k i, cr_lv s.2 k → 0 ≤ i → i < n → yA y k ≠ B i ∧ yFA y k ≠ fB i ∧ yDA y k ≠ dB i) (hin : ∀ i j, 0 ≤ i → i < n → 0 ≤ j → j < n → (B i = B j ∨ fB i = fB j ∨ dB i = dB j) → i = j) : CR G x (cr_yN y l q ca rf (cr_u1 (cr_s1 (yHo y) l 0) p (yHo y p + 1)) B fB dB CF CD) z (aw_up (aw_up (aw_up J q (.inr (4, [.int (iI l), .int (iI kd), .ref (yLo y p), .ref ca, va_rf rf, .int (iI 0), .int (iI 0), .int (iI 0)]))) (z 0 2) (.inl (G.2.2.1 5, 41, .inr (.inr (.inr (.inr (va_up cL l.toNat (some q)))))))) (yLo y p) (cr_cl y s.2 p (yHo y p + 1) 0)) s' ∧ cr_ag G cr_kGo (z 0 5) J (aw_up (aw_up (aw_up J q (.inr (4, [.int (iI l), .int (iI kd), .ref (yLo y p), .ref ca, va_rf rf, .int (iI 0), .int (iI 0), .int (iI 0)]))) (z 0 2) (.inl (G.2.2.1 5, 41, .inr (.inr (.inr (.inr (va_up cL l.toNat (some q)))))))) (yLo y p) (cr_cl y s.2 p (yHo y p + 1) 0)) := by
  have hLp := CR.ld h.1 hp
  have hH := h.2
  obtain ⟨⟨h1, h2, h3, h4, h6, h7, h8, h9⟩, -⟩ := h
  have hl := hm.1.1
  have hl5 := hm.1.2.1
  have hpl : p ≠ l := fun e => hp.2 (by rw [e]; exact hl5)
  have e5 := hm.2.1
  have sm := hm.2.2.1
  have m6 := hm.2.2.2.1
  have shA := hm.2.2.2.2.1
  have F := hm.2.2.2.2.2.1
  have e1 := hm.2.2.2.2.2.2
  have d1 : yLo y p ≠ z 0 2 := aw_ne hLp.1 hcL (fun m => by cases m)
  have q1 : yLo y p ≠ q := aw_nf hLp.1 hq
  have q2 : z 0 2 ≠ q := aw_nf hcL hq
  generalize hJ1 : (aw_up (aw_up (aw_up J q (.inr (4, [.int (iI l), .int (iI kd), .ref (yLo y p), .ref ca, va_rf rf, .int (iI 0), .int (iI 0), .int (iI 0)]))) (z 0 2) (.inl (G.2.2.1 5, 41, .inr (.inr (.inr (.inr (va_up cL l.toNat (some q)))))))) (yLo y p) (cr_cl y s.2 p (yHo y p + 1) 0)) = J1
  have jq : J1 q = some (.inr (4, [.int (iI l), .int (iI kd), .ref (yLo y p), .ref ca, va_rf rf, .int (iI 0), .int (iI 0), .int (iI 0)])) := by
    rw [← hJ1, aw_up_n q1.symm, aw_up_n q2.symm, aw_up_s]
  have jr : J1 (z 0 2) = some (.inl (G.2.2.1 5, 41, .inr (.inr (.inr (.inr (va_up cL l.toNat (some q))))))) := by
    rw [← hJ1, aw_up_n d1.symm, aw_up_s]
  have jp : J1 (yLo y p) = some (cr_cl y s.2 p (yHo y p + 1) 0) := by rw [← hJ1, aw_up_s]
  have hb : ∀ b v, J b = some v → b ≠ yLo y p → b ≠ z 0 2 → J1 b = some v := by
    intro b v m1 m2 m3
    rw [← hJ1, aw_up_n m2, aw_up_n m3, aw_up_n (aw_nf m1 hq)]
    exact m1
  clear hJ1
  have ha : ∀ w, cr_ag G cr_kGo w J J1 := by
    intro w b e q1 q2 q3
    refine hb b e q1 (fun z => ?_) (fun z => ?_)
    · rw [z, hLp.1] at q1
      cases q1
      exact absurd (q2 0 4 ⟨rfl, rfl⟩) (by decide)
    · rw [z, hcL] at q1
      cases q1
      exact absurd (q2 5 41 (cr_shq (by decide) (by decide))) (by decide)
  have kI : cr_kI cr_kGo := ⟨rfl, rfl, rfl, fun _ => rfl⟩
  have kA : cr_kA cr_kGo := ⟨rfl, rfl, rfl⟩
  generalize hHo : cr_u1 (cr_s1 (yHo y) l 0) p (yHo y p + 1) = Ho at hB ⊢
  have hoP : Ho p = yHo y p + 1 := by rw [← hHo]; exact if_pos rfl
  have hoL : Ho l = 0 := by
    rw [← hHo]
    show (if l = p then yHo y p + 1 else cr_s1 (yHo y) l 0 l) = 0
    rw [if_neg (fun m => hpl m.symm)]
    exact cr_s1_y _ _ _
  have hoN : ∀ j, j ≠ p → j ≠ l → Ho j = yHo y j := by
    intro j j1 j2
    rw [← hHo]
    show (if j = p then yHo y p + 1 else cr_s1 (yHo y) l 0 j) = yHo y j
    rw [if_neg j1, cr_s1_n _ _ j2]
  clear hHo
  have up7 : ∀ j, 1 ≤ j → j ≤ 40 → ¬ s.2.1 5 j = 0 → s.2.1 7 j ≠ l := fun j j1 j2 j3 e => (hI.up ⟨j1, j2⟩ j3).2 (by rw [e]; exact hl5)
  have r8 := hI.2.2.2.2.2.1.2.2.2
  have st : ∀ k, (∀ i, 0 ≤ i → i < 4 → k ≠ 10 + 4 * l + i) → mo_she s k s' k → cr_st G J s.2 y k → cr_st G J1 s'.2 (cr_yN y l q ca rf Ho B fB dB CF CD) k := by
    intro k hk hs hc
    have c := (hc.ag htg (ha 0) kI kA).she hs
    have nk : ¬ (10 + 4 * l ≤ k ∧ k < 14 + 4 * l) := fun m => hk (k - (10 + 4 * l)) (by omega) (by omega) (by omega)
    unfold cr_st at c ⊢
    show st_A G J1 (cr_sN (yA y) l B k) (cr_sN (yFA y) l fB k) (cr_sN (yDA y) l dB k) (cr_sN (yCF y) l CF k) (cr_sN (yCD y) l CD k) _ _ ∧ st_CF J1 (cr_sN (yCF y) l CF k) _ _ ∧ st_DE J1 (cr_sN (yCD y) l CD k) _ _
    rw [cr_sN_n _ _ nk, cr_sN_n _ _ nk, cr_sN_n _ _ nk, cr_sN_n _ _ nk, cr_sN_n _ _ nk]
    exact c
  have lvs : ∀ k, cr_lv s'.2 k → cr_lv s.2 k ∨ ∃ i, 0 ≤ i ∧ i < n ∧ k = 10 + 4 * l + i := by
    intro k hk
    rcases hk with hk | ⟨l', i, k1, k2, k3, k4⟩
    · exact Or.inl (Or.inl hk)
    · by_cases e : l' = l
      · rw [e, m6.2.2] at k3
        exact Or.inr ⟨i, k3.1, k3.2, by rw [k4, e]⟩
      · rw [e5, if_neg e] at k2
        rw [(sm l' e).2.2.1] at k3
        exact Or.inl (Or.inr ⟨l', i, k1, k2, k3, k4⟩)
  have lvn : ∀ k, cr_lv s.2 k → ¬ (10 + 4 * l ≤ k ∧ k < 14 + 4 * l) := by
    intro k hk m
    rcases hk with hk | ⟨l', i, k1, k2, k3, k4⟩
    · omega
    · have b4 := ((hI.2.2.1.2 l' k1.1 k1.2 k2).2.2.1).2
      have : l' = l := by omega
      rw [this] at k2
      exact k2 hl5
  refine ⟨⟨⟨by rw [e1]; exact (ha 0).o h1 rfl, ?_, ?_, ⟨⟨va_up cL l.toNat (some q), jr, ?_⟩, ?_⟩, ?_, by rw [e1]; exact h7, ?_, ?_⟩, ?_⟩, ha _⟩
  · obtain ⟨⟨co, c1, c2⟩, c3⟩ := h2
    refine ⟨⟨co, (ha 0).q htg c1 (by decide) (by decide) rfl, fun a a1 a2 => ?_⟩, fun a a1 a2 => st a (by omega) (shA a a1 a2) (c3 a a1 a2)⟩
    show co a.toNat = some (cr_sN (yA y) l B a)
    rw [cr_sN_n _ _ (by omega)]
    exact c2 a a1 a2
  · intro k k' hk hk' he
    have he : cr_sN (yA y) l B k = cr_sN (yA y) l B k' ∨ cr_sN (yFA y) l fB k = cr_sN (yFA y) l fB k' ∨ cr_sN (yDA y) l dB k = cr_sN (yDA y) l dB k' := he
    rcases lvs k hk with g | ⟨i, i1, i2, i3⟩
    · rw [cr_sN_n _ _ (lvn k g), cr_sN_n _ _ (lvn k g), cr_sN_n _ _ (lvn k g)] at he
      rcases lvs k' hk' with g' | ⟨i', i1', i2', i3'⟩
      · rw [cr_sN_n _ _ (lvn k' g'), cr_sN_n _ _ (lvn k' g'), cr_sN_n _ _ (lvn k' g')] at he
        exact h3 k k' g g' he
      · rw [i3', cr_sN_y _ _ _ i1' (by omega), cr_sN_y _ _ _ i1' (by omega), cr_sN_y _ _ _ i1' (by omega)] at he
        have f := hfr k i' g i1' i2'
        rcases he with e | e | e
        · exact absurd e f.1
        · exact absurd e f.2.1
        · exact absurd e f.2.2
    · rw [i3, cr_sN_y _ _ _ i1 (by omega), cr_sN_y _ _ _ i1 (by omega), cr_sN_y _ _ _ i1 (by omega)] at he
      rcases lvs k' hk' with g' | ⟨i', i1', i2', i3'⟩
      · rw [cr_sN_n _ _ (lvn k' g'), cr_sN_n _ _ (lvn k' g'), cr_sN_n _ _ (lvn k' g')] at he
        have f := hfr k' i g' i1 i2
        rcases he with e | e | e
        · exact absurd e.symm f.1
        · exact absurd e.symm f.2.1
        · exact absurd e.symm f.2.2
      · rw [i3', cr_sN_y _ _ _ i1' (by omega), cr_sN_y _ _ _ i1' (by omega), cr_sN_y _ _ _ i1' (by omega)] at he
        have := hin i i' i1 i2 i1' i2' he
        rw [i3, i3', this]
  · intro j j1 j2
    rw [e5]
    show _ ∧ (_ → va_up cL l.toNat (some q) j.toNat = some (cr_s1 (yLo y) l q j))
    by_cases e : j = l
    · rw [if_pos e, e]
      exact ⟨fun m => absurd m (by decide), fun _ => by rw [cr_s1_y]; exact va_up_self _ _ _⟩
    · rw [if_neg e, va_up_ne _ _ (by omega), cr_s1_n _ _ e]
      exact hcl j j1 j2
  · intro j j1 j2 j3
    rw [e5] at j3
    by_cases e : j = l
    · subst e
      refine cr_LB.iff.mpr ⟨?_, hB.ag htg (ha 0) kI kA⟩
      show st_L J1 (cr_s1 (yLo y) j q j) j (s'.2.1 6 j) (if j = 0 then none else some (cr_s1 (yLo y) j q (s'.2.1 7 j))) (cr_s1 (yCa y) j ca j) (cr_s1 (yRf y) j rf j) (Ho j) (cr_s1 (yDc y) j 0 j) 0
      rw [cr_s1_y, cr_s1_y, cr_s1_y, cr_s1_y, hoL, m6.1, m6.2.1, if_neg (by omega), cr_s1_n _ _ hpl]
      exact jq
    · rw [if_neg e] at j3
      obtain ⟨p1, ⟨co, p2, p3⟩, p4, p5, p6⟩ := cr_LB.iff.mp (h4.2 j j1 j2 j3)
      obtain ⟨a6, a7, a8, a9, a10, a11, ash⟩ := sm j e
      refine cr_LB.iff.mpr ⟨?_, ⟨co, ?_, ?_⟩, ?_, ?_, ?_⟩
      · show st_L J1 (cr_s1 (yLo y) l q j) j (s'.2.1 6 j) (if j = 0 then none else some (cr_s1 (yLo y) l q (s'.2.1 7 j))) (cr_s1 (yCa y) l ca j) (cr_s1 (yRf y) l rf j) (Ho j) (cr_s1 (yDc y) l 0 j) 0
        rw [cr_s1_n _ _ e, cr_s1_n _ _ e, cr_s1_n _ _ e, cr_s1_n _ _ e, a6, a7]
        have e9 : (if j = 0 then none else some (cr_s1 (yLo y) l q (s.2.1 7 j))) = st_pa y s.2 j := by
          unfold st_pa
          by_cases j0 : j = 0
          · rw [if_pos j0, if_pos j0]
          · rw [if_neg j0, if_neg j0, cr_s1_n _ _ (up7 j (by omega) j2 j3)]
        rw [e9]
        by_cases ep : j = p
        · subst ep
          rw [hoP]
          exact jp
        · rw [hoN j ep e]
          exact hb _ _ p1 (fun m => ep ((h4.2 j j1 j2 j3).inj hLp (by omega) ⟨by have := hp.1; omega, by have := hp.1; omega⟩ m)) (aw_ne p1 hcL (fun m => by cases m))
      · rw [a8]
        show J1 (cr_s1 (yCa y) l ca j) = _
        rw [cr_s1_n _ _ e]
        exact (ha 0).q htg p2 (by decide) (by decide) rfl
      · rw [a8]
        intro i i1 i2
        show co i.toNat = some (cr_sN (yA y) l B (10 + 4 * j + i))
        have hj8 : (s.2.1 8 j).toNat ≤ 4 := by
          by_cases j0 : j = 0
          · rw [j0, r8]; decide
          · have := ((hI.2.2.1.2 j (by omega) j2 j3).2.2.1).2
            omega
        rw [cr_sN_n _ _ (by omega)]
        exact p3 i i1 i2
      · rw [a8]
        intro i i1 i2
        have hj8 : (s.2.1 8 j).toNat ≤ 4 := by
          by_cases j0 : j = 0
          · rw [j0, r8]; decide
          · have := ((hI.2.2.1.2 j (by omega) j2 j3).2.2.1).2
            omega
        exact st _ (by omega) (ash i i1 (by omega)) (p4 i i1 i2)
      · rw [a6]
        intro m
        obtain ⟨fa, f1, f2⟩ := p5 m
        refine ⟨fa, ?_, ?_⟩
        · show cr_s1 (yRf y) l rf j = some fa
          rw [cr_s1_n _ _ e]
          exact f1
        · rw [a9, a10, a11]
          exact (ha 0).o f2 rfl
      · rw [a6]
        show ¬ s.2.1 6 j = 2 → cr_s1 (yRf y) l rf j = none
        rw [cr_s1_n _ _ e]
        exact p6
  · have S := (h6.ag htg (ha 0) kI ⟨rfl, rfl, rfl, rfl⟩ rfl)
    refine ⟨⟨S.1.choose, S.1.choose_spec.1, fun i i1 i2 => S.1.choose_spec.2 i i1 (by rw [← e1]; exact i2)⟩, fun i i1 i2 => ?_⟩
    rw [e1] at i2
    have S1 := S.2 i i1 i2
    have L3 := (hI.2.2.2.2.2.2.2.1 i i1 i2).2.2.2.2
    unfold cr_S1 cr_k3 at S1 ⊢
    rw [(F 13 (by decide)).1, (F 14 (by decide)).1, (F 15 (by decide)).1, (F 16 (by decide)).1, (F 17 (by decide)).1, (F 18 (by decide)).1, (F 19 (by decide)).2, (F 20 (by decide)).2, (F 21 (by decide)).1, (F 22 (by decide)).1, (F 23 (by decide)).1]
    obtain ⟨⟨r1, r2, r3, t1, t2⟩, rest⟩ := S1
    refine ⟨⟨r1, r2, r3, t1, fun k1 => ?_⟩, rest⟩
    have t3 := t2 k1
    have nl : ∀ k, 0 ≤ k → k < 3 → s.2.1 21 (3 * i + k) ≠ l := fun k q1 q2 e => (L3 k1 k q1 q2).2 (by rw [e]; exact hl5)
    have n0 := nl 0 (by decide) (by decide)
    rw [Int.add_zero] at n0
    show (1 ≤ i → r1 = some (cr_s1 (yLo y) l q (s.2.1 21 (3 * i)))) ∧ r2 = some (cr_s1 (yLo y) l q (s.2.1 21 (3 * i + 1))) ∧ r3 = some (cr_s1 (yLo y) l q (s.2.1 21 (3 * i + 2)))
    rw [cr_s1_n _ _ n0, cr_s1_n _ _ (nl 1 (by decide) (by decide)), cr_s1_n _ _ (nl 2 (by decide) (by decide))]
    exact t3
  · obtain ⟨⟨cT, t1⟩, t2⟩ := h8
    refine ⟨⟨cT, ?_⟩, fun c c1 c2 => ?_⟩
    · rw [e1, (F 25 (by decide)).1, (F 27 (by decide)).1, (F 28 (by decide)).1]
      exact t1.ag htg (ha 0) rfl rfl
    · rw [e1] at c2
      unfold cr_D
      rw [(F 26 (by decide)).1]
      refine ⟨fun m => ?_, fun m => ?_⟩
      · show z 9 c = cr_s1 (yLo y) l q (s.2.1 26 c)
        rw [cr_s1_n _ _ (fun e => ((hI.2.2.2.2.2.2.2.2.1 c c1 c2).2.1 m).2 (by rw [e]; exact hl5))]
        exact (t2 c c1 c2).1 m
      · obtain ⟨l', k', rp, ca, rf, h', dc, e'⟩ := (t2 c c1 c2).2 m
        refine ⟨l', k', rp, ca, rf, h', dc, hb _ _ e' (aw_ne e' hLp.1 (fun m => ?_)) (aw_ne e' hcL (fun m => by cases m))⟩
        injection m with m
        injection m with _ m
        injection m with _ m
        injection m with _ m
        injection m with _ m
        injection m with _ m
        injection m with _ m
        injection m with _ m
        injection m with _ m
        injection m with m _
        injection m with m
        exact absurd m (by decide)
  · obtain ⟨⟨oL, o1⟩, oN, o2, o3⟩ := h9
    exact ⟨⟨oL, (ha 0).q htg o1 (by decide) (by decide) rfl⟩, oN, hb _ _ o2 (aw_ne o2 hLp.1 (fun m => by cases m)) (aw_ne o2 hcL (fun m => by injection m with m; injection m with _ m; injection m with m _; exact absurd m (by decide))), o3⟩
  · intro j j1 j2 j3
    rw [mo_hold_more hm, e1, (F 26 (by decide)).1]
    show Ho j = _ ∧ cr_s1 (yDc y) l 0 j = _
    by_cases e : j = l
    · rw [e, hoL, cr_s1_y, if_neg hpl, hI.dead hl.1 hl5]
      refine ⟨rfl, ?_⟩
      have : ∀ N : Nat, (N : Int) + 8 ≤ s.1 24 → mo_dc (s.2.1 26) l N = 0 := by
        intro N
        induction N with
        | zero => exact fun _ => rfl
        | succ N ih =>
          intro hN
          rw [mo_dc, ih (by omega), if_neg (fun m => by
            have a := (hI.2.2.2.2.2.2.2.2.1 ((N : Int) + 8) (by omega) (by omega)).2.1 (by rw [m]; omega)
            rw [m] at a
            exact a.2 hl5)]
          rfl
      exact (this _ (by have := hI.2.1; omega)).symm
    · rw [e5, if_neg e] at j3
      rw [cr_s1_n _ _ e]
      have a := hH j j1 j2 j3
      refine ⟨?_, a.2⟩
      by_cases ep : j = p
      · rw [ep, hoP, if_pos rfl, ← ep, a.1]
      · rw [hoN j ep e, if_neg (fun m => ep m.symm), Int.add_zero]
        exact a.1
end CR12
/-! the loader wanted for a path -/
section CR13
variable {G : aw_G} {J : aw_J} {d kc ks : Nat} {Q : aw_O → aw_J → Prop} {x : Nat} {y : st_Y} {z : cr_Z} {s s' : mo_S}
theorem cr_pg : ∀ (n : Nat) (g : Nat → Nat), (∀ i, i < n → g i < n) → (∀ i j, i < n → j < n → g i = g j → i = j) → ∀ k, k < n → ∃ i, i < n ∧ g i = k := by
  intro n
  induction n with
  | zero => exact fun g _ _ k hk => absurd hk (by omega)
  | succ n ih =>
    intro g h1 h2 k hk
    have hm := h1 n (by omega)
    have key := ih (fun i => if g i = n then g n else g i) (fun i hi => by
      show (if g i = n then g n else g i) < n
      have a := h1 i (by omega)
      split
      · rename_i e
        have : g n ≠ n := fun e2 => by have := h2 i n (by omega) (by omega) (by rw [e, e2]); omega
        omega
      · omega) (fun i j hi hj e => by
      have e : (if g i = n then g n else g i) = (if g j = n then g n else g j) := e
      by_cases ei : g i = n
      · rw [if_pos ei] at e
        by_cases ej : g j = n
        · exact h2 i j (by omega) (by omega) (by rw [ei, ej])
        · rw [if_neg ej] at e
          have := h2 n j (by omega) (by omega) e
          omega
      · rw [if_neg ei] at e
        by_cases ej : g j = n
        · rw [if_pos ej] at e
          have := h2 i n (by omega) (by omega) e
          omega
        · rw [if_neg ej] at e
          exact h2 i j (by omega) (by omega) e)
    by_cases e1 : k = g n
    · exact ⟨n, by omega, e1.symm⟩
    · by_cases e2 : k = n
      · obtain ⟨i, i1, i2⟩ := key (g n) (by omega)
        have i2 : (if g i = n then g n else g i) = g n := i2
        by_cases e3 : g i = n
        · exact ⟨i, by omega, by rw [e3, e2]⟩
        · rw [if_neg e3] at i2
          have := h2 i n (by omega) (by omega) i2
          omega
      · obtain ⟨i, i1, i2⟩ := key k (by omega)
        have i2 : (if g i = n then g n else g i) = k := i2
        by_cases e3 : g i = n
        · rw [if_pos e3] at i2
          exact absurd i2.symm e1
        · rw [if_neg e3] at i2
          exact ⟨i, by omega, i2⟩
theorem cr_pig {α : Type} {n : Int} {F F' : Int → α} (hF : ∀ i j, 0 ≤ i → i < n → 0 ≤ j → j < n → F i = F j → i = j) (h : ∀ i, 0 ≤ i → i < n → ∃ j, 0 ≤ j ∧ j < n ∧ F' j = F i) : ∀ j, 0 ≤ j → j < n → ∃ i, 0 ≤ i ∧ i < n ∧ F i = F' j := by
  have hc : ∀ i : Nat, ∃ j : Nat, i < n.toNat → j < n.toNat ∧ F' (j : Int) = F (i : Int) := by
    intro i
    by_cases e : i < n.toNat
    · obtain ⟨j, j1, j2, j3⟩ := h (i : Int) (by omega) (by omega)
      exact ⟨j.toNat, fun _ => ⟨by omega, by rw [Int.toNat_of_nonneg j1]; exact j3⟩⟩
    · exact ⟨0, fun m => absurd m e⟩
  obtain ⟨g, hg⟩ := Classical.axiomOfChoice hc
  intro j j1 j2
  obtain ⟨i, i1, i2⟩ := cr_pg n.toNat g (fun i hi => (hg i hi).1) (fun a b ha hb e => by
    have e1 := (hg a ha).2
    have e2 := (hg b hb).2
    rw [e, e2] at e1
    have := hF (b : Int) (a : Int) (by omega) (by omega) (by omega) (by omega) e1
    omega) j.toNat (by omega)
  refine ⟨(i : Int), by omega, by omega, ?_⟩
  have := (hg i i1).2
  rw [i2, Int.toNat_of_nonneg j1] at this
  exact this.symm
/-- the files of the sheet k -/
def cr_F (t : mo_T) (k : Int) : Int → Int × Int × Int := fun j => (t.1 2 (24 * k + 3 * j), t.1 2 (24 * k + 3 * j + 1), t.1 2 (24 * k + 3 * j + 2))
def cr_E (t : mo_T) (k : Int) : Int → Int × Int := fun j => (t.1 4 (8 * k + 2 * j), t.1 4 (8 * k + 2 * j + 1))
/-- the sheets k and k' are alike, as the class asks it -/
def cr_lk (t : mo_T) (k k' : Int) : Prop := (t.1 1 k = t.1 1 k' ∧ t.1 3 k = t.1 3 k') ∧ st_lf (t.1 1 k') (cr_F t k) (cr_F t k') (t.1 1 k) ∧ st_le (t.1 3 k') (cr_E t k) (cr_E t k') (t.1 3 k)
theorem cr_lk_iff {k k' : Int} (hu : mo_uq s k) (hu' : mo_uq s k') : cr_lk s.2 k k' ↔ mo_alk s k' k := by
  constructor
  · rintro ⟨⟨e1, e3⟩, hf, he⟩
    rw [e1] at hf
    rw [e3] at he
    have pf := cr_pig (F := cr_F s.2 k) (F' := cr_F s.2 k') (n := s.2.1 1 k') (fun i j i1 i2 j1 j2 e => hu.2.2.1 i j i1 (by rw [e1]; exact i2) j1 (by rw [e1]; exact j2) (Prod.mk.inj e).1) hf
    have pe := cr_pig (F := cr_E s.2 k) (F' := cr_E s.2 k') (n := s.2.1 3 k') (fun i j i1 i2 j1 j2 e => hu.2.2.2.1 i j i1 (by rw [e3]; exact i2) j1 (by rw [e3]; exact j2) (Prod.mk.inj e).1) he
    refine ⟨⟨⟨e1.symm, e3.symm⟩, fun j j1 j2 => ?_⟩, fun j j1 j2 => ?_⟩
    · obtain ⟨i, i1, i2, i3⟩ := pf j j1 j2
      have a := Prod.mk.inj i3
      have b := Prod.mk.inj a.2
      exact ⟨i, i1, by rw [e1]; exact i2, a.1, b.1, b.2⟩
    · obtain ⟨i, i1, i2, i3⟩ := pe j j1 j2
      have a := Prod.mk.inj i3
      exact ⟨i, i1, by rw [e3]; exact i2, a.1, a.2⟩
  · rintro ⟨⟨⟨e1, e3⟩, hf⟩, he⟩
    have hf' : ∀ j, 0 ≤ j → j < s.2.1 1 k → ∃ i, 0 ≤ i ∧ i < s.2.1 1 k ∧ cr_F s.2 k i = cr_F s.2 k' j := by
      intro j j1 j2
      obtain ⟨i, i1, i2, i3, i4, i5⟩ := hf j j1 (by rw [e1]; exact j2)
      exact ⟨i, i1, i2, by unfold cr_F; rw [i3, i4, i5]⟩
    have he' : ∀ j, 0 ≤ j → j < s.2.1 3 k → ∃ i, 0 ≤ i ∧ i < s.2.1 3 k ∧ cr_E s.2 k i = cr_E s.2 k' j := by
      intro j j1 j2
      obtain ⟨i, i1, i2, i3, i4⟩ := he j j1 (by rw [e3]; exact j2)
      exact ⟨i, i1, i2, by unfold cr_E; rw [i3, i4]⟩
    refine ⟨⟨e1.symm, e3.symm⟩, fun i i1 i2 => ?_, fun i i1 i2 => ?_⟩
    · rw [e1]
      exact cr_pig (F := cr_F s.2 k') (F' := cr_F s.2 k) (n := s.2.1 1 k) (fun i j i1 i2 j1 j2 e => hu'.2.2.1 i j i1 (by rw [e1]; exact i2) j1 (by rw [e1]; exact j2) (Prod.mk.inj e).1) hf' i i1 i2
    · rw [e3]
      exact cr_pig (F := cr_E s.2 k') (F' := cr_E s.2 k) (n := s.2.1 3 k) (fun i j i1 i2 j1 j2 e => hu'.2.2.2.1 i j i1 (by rw [e3]; exact i2) j1 (by rw [e3]; exact j2) (Prod.mk.inj e).1) he' i i1 i2
theorem cr_cpy {H : aw_J} {a : Int} (hS : cr_st G J s.2 y a) (hk : ∀ b v, J b = some v → H b = some v) : st_CF H (st_cut (yCF y a) (s.2.1 1 a)) (s.2.1 1 a) (cr_F s.2 a) ∧ st_DE H (st_cut (yCD y a) (s.2.1 3 a)) (s.2.1 3 a) (cr_E s.2 a) := by
  refine ⟨fun j j1 j2 => ?_, fun j j1 j2 => ?_⟩
  · obtain ⟨m1, c, m2, m3⟩ := hS.2.1 j j1 j2
    exact ⟨m1, c, (if_pos (by omega)).trans m2, hk _ _ m3⟩
  · obtain ⟨m1, c, m2, m3⟩ := hS.2.2 j j1 j2
    exact ⟨m1, c, (if_pos (by omega)).trans m2, hk _ _ m3⟩
theorem cr_fsh {H : aw_J} (h : CR G x y z J s) (htg : aw_tg G) (hk : ∀ b v, J b = some v → H b = some v) : CR G x y z H s := by
  obtain ⟨oN, h1, _⟩ := h.1.2.2.2.2.2.2.2.2
  exact ⟨h.1.ag htg (cr_ag.f (K := fun _ _ => false) (w := 0) hk) ⟨⟨rfl, rfl, rfl, fun _ => rfl⟩, ⟨rfl, rfl, rfl⟩, ⟨rfl, rfl, rfl, rfl⟩, rfl, rfl, rfl, rfl, rfl, rfl, rfl⟩ ((hk _ _ h1).trans h1.symm), h.2⟩
/-- the path w of the scope c -/
def cr_pp (z : cr_Z) (c w : Int) : Nat := if w = 0 then z 2 c else z 4 c
theorem cr_pp_P {c w : Int} (h : C0 G x y z J s) (hc : 0 ≤ c ∧ c < s.1 12) (hw : w = 0 ∨ w = 1) : ∃ pa P, st_P G J (cr_pp z c w) pa (s.2.1 16 (2 * c + w)) P ∧ ∀ j, 0 ≤ j → j < s.2.1 16 (2 * c + w) → P j = s.2.1 15 (8 * c + 4 * w + j) := by
  obtain ⟨-, ⟨P1, p1, p2⟩, ⟨P2, p3, p4⟩, -⟩ := h.2.2.2.2.1.2 c hc.1 hc.2
  rcases hw with e | e
  · subst e
    refine ⟨z 3 c, P1, ?_, fun j j1 j2 => ?_⟩
    · rw [Int.add_zero]; exact p1
    · rw [Int.add_zero] at j2
      rw [show 8 * c + 4 * 0 + j = 8 * c + j by omega]
      exact p2 j j1 j2
  · subst e
    refine ⟨z 5 c, P2, p3, fun j j1 j2 => ?_⟩
    rw [show 8 * c + 4 * 1 + j = 8 * c + 4 + j by omega]
    exact p4 j j1 j2
theorem cx_wantD {c w p : Int} (htg : aw_tg G) (hkc : 14 ≤ kc) (hks : 76 ≤ ks) (h : CR G x y z J s) (hI : Iv0 s) (hgb : ∀ k i, iB (s.2.1 k i)) (hc : 0 ≤ c ∧ c < s.1 12) (hw : w = 0 ∨ w = 1) (hp : cr_ll s p) (hf : 1 ≤ mo_fr (s.2.1 5) 40) (hq : ∀ l s' y' J', mo_dR s (8 * c + 4 * w) (s.2.1 16 (2 * c + w)) p l s' → CR G x y' z J' s' → cr_ag G cr_kGo (z 0 5) J J' → (∀ j, ¬ s.2.1 5 j = 0 → yLo y' j = yLo y j) → Q (.inl (some (.ref (yLo y' l)))) J') : aw_W G mT_wantedDefining (d + 1 + 1 + 1 + 1) Q 0 [some (.ref x), some (.ref (cr_pp z c w)), some (.ref (yLo y p)), none, none, none] [] J kc ks := by
  obtain ⟨pa, P, hP, hPP⟩ := cr_pp_P h.1 hc hw
  obtain ⟨⟨cL, l1, l2⟩, l3⟩ := h.1.2.2.2.1
  obtain ⟨⟨cA, a1, a2⟩, a3⟩ := h.1.2.1
  have iv := (hI.2.2.2.2.2.2.2.1 c hc.1 hc.2).2.2.1 w hw
  generalize hn : s.2.1 16 (2 * c + w) = n at hP hPP iv hq
  generalize hfe : 8 * c + 4 * w = f at hPP iv hq
  have hPr : ∀ i, 0 ≤ i → i < n → 0 ≤ P i ∧ P i ≤ 9 := fun i i1 i2 => by rw [hPP i i1 i2]; exact iv.2 i i1 i2
  have SL := hI.2.2.1
  have hnn : ((n.toNat : Nat) : Int) = n := by have := iv.1; omega
  have dmi : ∀ i, 1 ≤ i → i ≤ 40 → ¬ n = 0 → ((¬ cL i.toNat = none ∧ st_pa y s.2 i = some (yLo y p) ∧ ((s.2.1 8 i).toNat = n.toNat ∧ ∀ k, 0 ≤ k → k < ((s.2.1 8 i).toNat : Int) → cr_lk s.2 (10 + 4 * i + k) (P k))) ↔ mo_dm s f n p i) := by
    intro i i1 i2 hn0
    have c := l2 i (by omega) i2
    constructor
    · rintro ⟨m1, m2, m3, m4⟩
      have i5 : ¬ s.2.1 5 i = 0 := fun e => m1 (c.1 e)
      have ld := SL.2 i i1 i2 i5
      have e7 : st_pa y s.2 i = some (yLo y (s.2.1 7 i)) := if_neg (by omega)
      rw [e7] at m2
      have up := hI.up ⟨i1, i2⟩ i5
      have e7 : s.2.1 7 i = p := (CR.ld h.1 up).inj (CR.ld h.1 hp) ⟨by have := up.1; omega, by have := up.1; omega⟩ ⟨by have := hp.1; omega, by have := hp.1; omega⟩ (Option.some.inj m2)
      have e8 : s.2.1 8 i = n := by have := ld.2.2.1; omega
      have e6 : s.2.1 6 i = 1 := by
        rcases ld.2.1 with e | e
        · exact e
        · have := ld.2.2.2.1 e; omega
      refine ⟨⟨i5, e6, e7, e8⟩, fun k k1 k2 => ?_⟩
      have a := hPr k k1 k2
      have b := m4 k k1 (by omega)
      rw [← hPP k k1 k2]
      exact (cr_lk_iff (ld.2.2.2.2.1 k k1 (by omega)) (SL.1 _ a.1 a.2).1).mp b
    · rintro ⟨⟨i5, e6, e7, e8⟩, m⟩
      have ld := SL.2 i i1 i2 i5
      refine ⟨by rw [c.2 i5]; exact fun e => (by cases e), ?_, by rw [e8], fun k k1 k2 => ?_⟩
      · rw [show st_pa y s.2 i = some (yLo y (s.2.1 7 i)) from if_neg (by omega), e7]
      · rw [e8] at k2
        have k2 : k < n := by omega
        have a := hPr k k1 k2
        have b := m k k1 k2
        rw [← hPP k k1 k2] at b
        exact (cr_lk_iff (ld.2.2.2.2.1 k k1 (by omega)) (SL.1 _ a.1 a.2).1).mpr b
  refine sp_wantD (n := n) (P := P) (cL := cL) (La := yLo y) (RP := st_pa y s.2) (M := fun i => (s.2.1 8 i).toNat = n.toNat ∧ ∀ k, 0 ≤ k → k < ((s.2.1 8 i).toNat : Int) → cr_lk s.2 (10 + 4 * i + k) (P k)) (PC := fun q H => ¬ n = 0 ∧ ∃ B fB dB, st_cs G J H q n n P (yCF y) (yCD y) (s.2.1 1) (s.2.1 3) B fB dB) (PN := fun v J' => ∃ l s' y', mo_dR s f n p l s' ∧ CR G x y' z J' s' ∧ cr_ag G cr_kGo (z 0 5) J J' ∧ (∀ j, ¬ s.2.1 5 j = 0 → yLo y' j = yLo y j) ∧ v = yLo y' l) hkc hks h.1.1 hP (fun e => ?_) (fun hn0 Q' hQ' => ?_) (fun q H hH => ?_) (fun q H i hH i1 i2 i3 i4 => ?_) (fun q H hH hno Q' hQ' => ?_) (fun v J' hN => ?_)
  · exact hq p s y J (Or.inl ⟨e, rfl, rfl⟩) h cr_ag.rf (fun _ _ => rfl)
  · exact sp_contents (A := yA y) (fA := yFA y) (dA := yDA y) (cF := yCF y) (cD := yCD y) (nF := s.2.1 1) (nD := s.2.1 3) (F := cr_F s.2) (E := cr_E s.2) (by decide) (by decide) h.1.1 a1 a2 hP hPr (fun a q1 q2 => a3 a q1 q2) (fun q H B fB dB hcs => hQ' q H ⟨hn0, B, fB, dB, hcs⟩)
  · obtain ⟨hn0, B, fB, dB, ⟨co, co1, co2⟩, hqn, hk, hcs, hin⟩ := hH
    refine ⟨hk _ _ h.1.1, hk _ _ l1, fun i i1 i2 => ?_⟩
    by_cases i5 : s.2.1 5 i = 0
    · exact Or.inl ((l2 i (by omega) i2).1 i5)
    · have L := l3 i (by omega) i2 i5
      have ld := SL.2 i i1 i2 i5
      refine Or.inr ⟨(l2 i (by omega) i2).2 i5, ⟨_, _, _, _, _, _, _, hk _ _ L.1⟩, fun _ Q' h1 h0 => ?_⟩
      obtain ⟨⟨co', d1, d2⟩, d3⟩ := L.2.1
      refine sp_pathLike (N := (s.2.1 8 i).toNat) (N' := n.toNat) (A := fun k => yA y (10 + 4 * i + k)) (fA := fun k => yFA y (10 + 4 * i + k)) (dA := fun k => yDA y (10 + 4 * i + k)) (cF := fun k => yCF y (10 + 4 * i + k)) (cD := fun k => yCD y (10 + 4 * i + k)) (nF := fun k => s.2.1 1 (10 + 4 * i + k)) (nD := fun k => s.2.1 3 (10 + 4 * i + k)) (F := fun k => cr_F s.2 (10 + 4 * i + k)) (E := fun k => cr_E s.2 (10 + 4 * i + k)) (A' := B) (fA' := fB) (dA' := dB) (cF' := fun k => st_cut (yCF y (P k)) (s.2.1 1 (P k))) (cD' := fun k => st_cut (yCD y (P k)) (s.2.1 3 (P k))) (nF' := fun k => s.2.1 1 (P k)) (nD' := fun k => s.2.1 3 (P k)) (F' := fun k => cr_F s.2 (P k)) (E' := fun k => cr_E s.2 (P k)) ⟨⟨co', hk _ _ d1, d2⟩, fun k k1 k2 => ⟨(d3 k k1 k2).1.mn hk, (d3 k k1 k2).2.1.mn hk, (d3 k k1 k2).2.2.mn hk⟩⟩ (by have := ld.2.2.1; omega) ⟨⟨co, co1, fun k k1 k2 => co2 k k1 (by omega)⟩, fun k k1 k2 => ?_⟩ (by have := iv.1; omega) (fun a b => ⟨hgb _ _, hgb _ _, hgb _ _, hgb _ _⟩) (fun a b => ⟨hgb _ _, hgb _ _⟩) (fun k k1 k2 a b a1 a2 b1 b2 e => ?_) (fun k k1 k2 a b a1 a2 b1 b2 e => ?_) (hk _ _ L.1) h1 h0
      · have a := hPr k k1 (by omega)
        have b := cr_cpy (H := H) (a3 _ a.1 a.2) hk
        exact ⟨(hcs k k1 (by omega)).2, b.1, b.2⟩
      · have q := hPr k k1 (by omega)
        exact (SL.1 _ q.1 q.2).1.2.2.1 a b a1 a2 b1 b2 e
      · have q := hPr k k1 (by omega)
        exact (SL.1 _ q.1 q.2).1.2.2.2.1 a b a1 a2 b1 b2 e
  · obtain ⟨hn0, B, fB, dB, hcs⟩ := hH
    exact hq i s y H (Or.inr (Or.inl ⟨hn0, ⟨i1, i2⟩, fun j j1 j2 => fun m => i3 j j1 j2 ((dmi j j1 (by omega) hn0).mpr m), (dmi i i1 i2 hn0).mp i4, rfl⟩)) (cr_fsh h htg hcs.2.2.1) (cr_ag.f hcs.2.2.1) (fun _ _ => rfl)
  · obtain ⟨hn0, B, fB, dB, ⟨co, co1, co2⟩, hqn, hk, hcs, hin⟩ := hH
    have hCR := cr_fsh h htg hk
    have Lp := CR.ld hCR.1 hp
    refine sp_newLoader (rf := none) (f := s.2.1 5) (by decide) (by decide) hCR.1.1 (hk _ _ l1) (fun l q1 q2 => ?_) (mo_fr_ex _ 40 hf) Lp.1 (fun l q' q1 q2 q3 q4 q5 => ?_)
    · have c := l2 l (by omega) q2
      exact ⟨fun e => Classical.byContradiction (fun m => by rw [c.2 m] at e; cases e), c.1⟩
    · have hcond : (1 ≤ l ∧ l ≤ 40) ∧ s.2.1 5 l = 0 ∧ ∀ j, 1 ≤ j → j < l → ¬ s.2.1 5 j = 0 := ⟨⟨q1, q2⟩, q4, q3⟩
      have mm := mo_newd_m (s := s) (f := f) (p := p) hcond iv.1
      have she : ∀ i, 0 ≤ i → i < n → mo_she s (P i) (mo_newd s f n p l) (10 + 4 * l + i) := by
        intro i i1 i2
        rw [hPP i i1 i2]
        exact mo_newd_s q1 iv.1.1 (fun i i1 i2 => iv.2 i i1 i2) i1 i2
      have m8 := mm.2.2.2.1
      have key := CR.more (cL := cL) (q := q') (ca := q) (rf := none) (B := B) (fB := fB) (dB := dB) (CF := fun i => st_cut (yCF y (P i)) (s.2.1 1 (P i))) (CD := fun i => st_cut (yCD y (P i)) (s.2.1 3 (P i))) htg hCR hI mm hp iv.1 (hk _ _ l1) l2 q5 ?_ ?_ ?_
      · exact hQ' q' _ ⟨l, mo_newd s f n p l, _, Or.inr (Or.inr ⟨hn0, fun j j1 j2 m => hno j j1 j2 ((dmi j j1 j2 hn0).mpr m), hcond, rfl⟩), key.1, (cr_ag.f hk).tr key.2, fun j hj => cr_s1_n _ _ (fun e => hj (by rw [e]; exact q4)), (cr_s1_y _ _ _).symm⟩
      · generalize mo_newd s f n p l = s' at she m8
        refine ⟨⟨co, ?_, fun i i1 i2 => ?_⟩, fun i i1 i2 => ?_, fun e => absurd (m8.1.symm.trans e) (by decide), fun _ => cr_s1_y _ _ _⟩
        · show H (cr_s1 (yCa y) l q l) = _
          rw [cr_s1_y, m8.2.2]
          exact co1
        · rw [m8.2.2] at i2
          show co i.toNat = some (cr_sN (yA y) l B (10 + 4 * l + i))
          rw [cr_sN_y _ _ _ i1 (by have := iv.1; omega)]
          exact co2 i i1 (by omega)
        · rw [m8.2.2] at i2
          have i4 : i < 4 := by have := iv.1; omega
          have i2 : i < n := by omega
          have a := hPr i i1 i2
          have sa := a3 _ a.1 a.2
          have b := cr_cpy (H := H) sa hk
          obtain ⟨e1, e3, e2, e4⟩ := she i i1 i2
          have b1 := sa.1.2.2.2.1
          have b3 := sa.1.2.2.2.2
          unfold cr_st
          show st_A G H (cr_sN (yA y) l B (10 + 4 * l + i)) (cr_sN (yFA y) l fB (10 + 4 * l + i)) (cr_sN (yDA y) l dB (10 + 4 * l + i)) (cr_sN (yCF y) l (fun i => st_cut (yCF y (P i)) (s.2.1 1 (P i))) (10 + 4 * l + i)) (cr_sN (yCD y) l (fun i => st_cut (yCD y (P i)) (s.2.1 3 (P i))) (10 + 4 * l + i)) _ _ ∧ st_CF H (cr_sN (yCF y) l (fun i => st_cut (yCF y (P i)) (s.2.1 1 (P i))) (10 + 4 * l + i)) _ _ ∧ st_DE H (cr_sN (yCD y) l (fun i => st_cut (yCD y (P i)) (s.2.1 3 (P i))) (10 + 4 * l + i)) _ _
          rw [cr_sN_y _ _ _ i1 i4, cr_sN_y _ _ _ i1 i4, cr_sN_y _ _ _ i1 i4, cr_sN_y _ _ _ i1 i4, cr_sN_y _ _ _ i1 i4, e1, e3]
          refine ⟨(hcs i i1 i2).2, fun j j1 j2 => ?_, fun j j1 j2 => ?_⟩
          · have f0 := e2 (3 * j) (by omega) (by omega)
            have f1 := e2 (3 * j + 1) (by omega) (by omega)
            have f2 := e2 (3 * j + 2) (by omega) (by omega)
            rw [← Int.add_assoc] at f1 f2
            rw [← Int.add_assoc] at f1 f2
            simp only [f0, f1, f2]
            exact b.1 j j1 j2
          · have f0 := e4 (2 * j) (by omega) (by omega)
            have f1 := e4 (2 * j + 1) (by omega) (by omega)
            rw [← Int.add_assoc] at f1
            rw [← Int.add_assoc] at f1
            simp only [f0, f1]
            exact b.2 j j1 j2
      · intro k i hkk i1 i2
        have cs := (hcs i i1 i2).1
        have st : cr_st G J s.2 y k := by
          rcases hkk with m | ⟨l', i', k1, k2, k3, k4⟩
          · exact a3 k m.1 m.2
          · rw [k4]
            have L := cr_LB.iff.mp (l3 l' (by omega) k1.2 k2)
            exact L.2.2.1 i' k3.1 (by omega)
        exact ⟨aw_nf st.1.1 cs.1, aw_nf st.1.2.1 cs.2.1, aw_nf st.1.2.2.1 cs.2.2⟩
      · intro i j i1 i2 j1 j2 e
        exact hin i j i1 i2 j1 j2 e
  · obtain ⟨l, s', y', n1, n2, n3, n4, n5⟩ := hN
    rw [n5]
    exact hq l s' y' J' n1 n2 n3 n4
end CR13
