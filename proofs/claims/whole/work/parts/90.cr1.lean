/-! what is kept: cells are told apart by their shapes -/
section CR1
variable {G : aw_G} {J J1 J2 : aw_J} {K : Nat → Nat → Bool} {w : Nat}
def cr_sh (G : aw_G) (i n : Nat) (e : va_E) : Prop := match e with
  | .inr (c, _) => i = 0 ∧ n = c
  | .inl (_, m, .inl _) => i = 1 ∧ n = m
  | .inl (_, m, .inr (.inl _)) => i = 2 ∧ n = m
  | .inl (t, m, .inr (.inr (.inr (.inr _)))) => (3 ≤ i ∧ i < 9) ∧ G.2.2.1 i = t ∧ n = m
  | _ => False
/-- all cells but those of the shapes K, and the names' row w, are kept -/
def cr_ag (G : aw_G) (K : Nat → Nat → Bool) (w : Nat) (J J' : aw_J) : Prop := ∀ a e, J a = some e → (∀ i n, cr_sh G i n e → K i n = false) → (cr_sh G 1 8 e → a ≠ w) → J' a = some e
theorem cr_ag.rf : cr_ag G K w J J := fun _ _ h _ _ => h
theorem cr_ag.tr (h : cr_ag G K w J J1) (h' : cr_ag G K w J1 J2) : cr_ag G K w J J2 := fun a e k1 k2 k3 => h' a e (h a e k1 k2 k3) k2 k3
theorem cr_ag.wd {K' : Nat → Nat → Bool} (hk : ∀ i n, K' i n = false → K i n = false) (h : cr_ag G K w J J1) : cr_ag G K' w J J1 := fun a e k1 k2 k3 => h a e k1 (fun i n q => hk i n (k2 i n q)) k3
theorem cr_ag.n {q : Nat} {e : va_E} (h : cr_ag G K w J J1) (hq : J1 q = none) : cr_ag G K w J (aw_up J1 q e) := fun a v k1 k2 k3 => (aw_up_n (aw_nf (h a v k1 k2 k3) hq)).trans (h a v k1 k2 k3)
theorem cr_ag.u {q i n : Nat} {e e0 : va_E} (h : cr_ag G K w J J1) (hq : J1 q = some e0) (hs : cr_sh G i n e0) (hk : K i n = true) : cr_ag G K w J (aw_up J1 q e) := fun a v k1 k2 k3 => by
  have e1 := h a v k1 k2 k3
  refine (aw_up_n (fun z => ?_)).trans e1
  rw [z, hq] at e1
  cases e1
  have := k2 i n hs
  rw [hk] at this
  cases this
theorem cr_ag.v {e e0 : va_E} (h : cr_ag G K w J J1) (hq : J1 w = some e0) (hs : cr_sh G 1 8 e0) : cr_ag G K w J (aw_up J1 w e) := fun a v k1 k2 k3 => by
  have e1 := h a v k1 k2 k3
  refine (aw_up_n (fun z => ?_)).trans e1
  rw [z, hq] at e1
  cases e1
  exact k3 hs z
theorem cr_ag.f (h : ∀ b v, J b = some v → J1 b = some v) : cr_ag G K w J J1 := fun a e k1 _ _ => h a e k1
theorem cr_ag.o {a c : Nat} {vs : List Value} (h : cr_ag G K w J J1) (hJ : J a = some (.inr (c, vs))) (hk : K 0 c = false) : J1 a = some (.inr (c, vs)) := h a _ hJ (fun i n q => by obtain ⟨rfl, rfl⟩ := q; exact hk) (fun q => absurd q.1 (by decide))
theorem cr_ag.i {a m : Nat} {t : ClassId} {f : Nat → Int32} (h : cr_ag G K w J J1) (hJ : J a = some (.inl (t, m, .inl f))) (hk : K 1 m = false) (h8 : m = 8 → a ≠ w) : J1 a = some (.inl (t, m, .inl f)) := h a _ hJ (fun i n q => by obtain ⟨rfl, rfl⟩ := q; exact hk) (fun q => h8 q.2.symm)
theorem cr_ag.j {a m : Nat} {t : ClassId} {f : Nat → Int64} (h : cr_ag G K w J J1) (hJ : J a = some (.inl (t, m, .inr (.inl f)))) (hk : K 2 m = false) : J1 a = some (.inl (t, m, .inr (.inl f))) := h a _ hJ (fun i n q => by obtain ⟨rfl, rfl⟩ := q; exact hk) (fun q => absurd q.1 (by decide))
theorem cr_ag.q {a m j : Nat} {c : Nat → Option Nat} (htg : aw_tg G) (h : cr_ag G K w J J1) (hJ : J a = some (.inl (G.2.2.1 j, m, .inr (.inr (.inr (.inr c)))))) (h3 : 3 ≤ j) (h9 : j < 9) (hk : K j m = false) : J1 a = some (.inl (G.2.2.1 j, m, .inr (.inr (.inr (.inr c))))) := h a _ hJ (fun i n q => by
  obtain ⟨q1, q2, rfl⟩ := q
  rw [htg i j q1.1 q1.2 h3 h9 q2]
  exact hk) (fun q => absurd q.1.1 (by decide))
theorem cr_shq {j m : Nat} {c : Nat → Option Nat} (h3 : 3 ≤ j) (h9 : j < 9) : cr_sh G j m (.inl (G.2.2.1 j, m, .inr (.inr (.inr (.inr c))))) := ⟨⟨h3, h9⟩, rfl, rfl⟩
/-- the shapes that are never written: files, descriptors, filters, rows of archives -/
def cr_kI (K : Nat → Nat → Bool) : Prop := K 0 1 = false ∧ K 0 2 = false ∧ K 0 3 = false ∧ ∀ n, K 3 n = false
/-- archives and their rows -/
def cr_kA (K : Nat → Nat → Bool) : Prop := K 0 0 = false ∧ K 7 8 = false ∧ K 8 4 = false
theorem st_A.ag {a fa da : Nat} {cf cd : Nat → Option Nat} {n m : Int} (hA : st_A G J a fa da cf cd n m) (htg : aw_tg G) (h : cr_ag G K w J J1) (k : cr_kA K) : st_A G J1 a fa da cf cd n m := ⟨h.o hA.1 k.1, h.q htg hA.2.1 (by decide) (by decide) k.2.1, h.q htg hA.2.2.1 (by decide) (by decide) k.2.2, hA.2.2.2⟩
theorem st_CF.ag {cf : Nat → Option Nat} {n : Int} {F : Int → Int × Int × Int} (hF : st_CF J cf n F) (h : cr_ag G K w J J1) (k : cr_kI K) : st_CF J1 cf n F := fun i q1 q2 => by
  obtain ⟨k1, c, k2, k3⟩ := hF i q1 q2
  exact ⟨k1, c, k2, h.o k3 k.1⟩
theorem st_DE.ag {cd : Nat → Option Nat} {n : Int} {E : Int → Int × Int} (hE : st_DE J cd n E) (h : cr_ag G K w J J1) (k : cr_kI K) : st_DE J1 cd n E := fun i q1 q2 => by
  obtain ⟨k1, c, k2, k3⟩ := hE i q1 q2
  exact ⟨k1, c, k2, h.o k3 k.2.1⟩
/-- the sheet k of t lies in the heap as y says -/
def cr_st (G : aw_G) (J : aw_J) (t : mo_T) (y : st_Y) (k : Int) : Prop := st_A G J (yA y k) (yFA y k) (yDA y k) (yCF y k) (yCD y k) (t.1 1 k) (t.1 3 k) ∧ st_CF J (yCF y k) (t.1 1 k) (fun j => (t.1 2 (24 * k + 3 * j), t.1 2 (24 * k + 3 * j + 1), t.1 2 (24 * k + 3 * j + 2))) ∧ st_DE J (yCD y k) (t.1 3 k) (fun j => (t.1 4 (8 * k + 2 * j), t.1 4 (8 * k + 2 * j + 1)))
theorem cr_st.ag {t : mo_T} {y : st_Y} {k : Int} (hS : cr_st G J t y k) (htg : aw_tg G) (h : cr_ag G K w J J1) (k1 : cr_kI K) (k2 : cr_kA K) : cr_st G J1 t y k := ⟨hS.1.ag htg h k2, hS.2.1.ag h k1, hS.2.2.ag h k1⟩
/-- a loader's row, sheets and filter -/
def cr_LB (G : aw_G) (J : aw_J) (t : mo_T) (y : st_Y) (l : Int) : Prop := (∃ co : Nat → Option Nat, J (yCa y l) = some (.inl (G.2.2.1 3, (t.1 8 l).toNat, .inr (.inr (.inr (.inr co))))) ∧ ∀ i, 0 ≤ i → i < ((t.1 8 l).toNat : Int) → co i.toNat = some (yA y (10 + 4 * l + i))) ∧ (∀ i, 0 ≤ i → i < ((t.1 8 l).toNat : Int) → cr_st G J t y (10 + 4 * l + i)) ∧ (t.1 6 l = 2 → ∃ fa, yRf y l = some fa ∧ J fa = some (.inr (3, [.int (iI (t.1 9 l)), .long (t.2 10 l), .long (t.2 11 l)]))) ∧ (¬ t.1 6 l = 2 → yRf y l = none)
theorem cr_LB.iff {t : mo_T} {y : st_Y} {l : Int} : st_LD G J t y l ↔ st_L J (yLo y l) l (t.1 6 l) (st_pa y t l) (yCa y l) (yRf y l) (yHo y l) (yDc y l) 0 ∧ cr_LB G J t y l := by
  constructor
  · rintro ⟨h1, ⟨h2, h3⟩, h4, h5⟩
    exact ⟨h1, h2, fun i q1 q2 => h3 i q1 q2, h4, h5⟩
  · rintro ⟨h1, h2, h3, h4, h5⟩
    exact ⟨h1, ⟨h2, fun i q1 q2 => h3 i q1 q2⟩, h4, h5⟩
theorem cr_LB.ag {t : mo_T} {y : st_Y} {l : Int} (hL : cr_LB G J t y l) (htg : aw_tg G) (h : cr_ag G K w J J1) (k1 : cr_kI K) (k2 : cr_kA K) : cr_LB G J1 t y l := by
  obtain ⟨⟨co, c1, c2⟩, c3, c4, c5⟩ := hL
  refine ⟨⟨co, h.q htg c1 (by decide) (by decide) (k1.2.2.2 _), c2⟩, fun i q1 q2 => (c3 i q1 q2).ag htg h k1 k2, fun z => ?_, c5⟩
  obtain ⟨fa, f1, f2⟩ := c4 z
  exact ⟨fa, f1, h.o f2 k1.2.2.1⟩
/-- the archives' row -/
def cr_A (G : aw_G) (J : aw_J) (aA : Nat) (t : mo_T) (y : st_Y) : Prop := (∃ cA : Nat → Option Nat, J aA = some (.inl (G.2.2.1 3, 10, .inr (.inr (.inr (.inr cA))))) ∧ ∀ a, 0 ≤ a → a ≤ 9 → cA a.toNat = some (yA y a)) ∧ ∀ a, 0 ≤ a → a ≤ 9 → cr_st G J t y a
theorem cr_A.ag {aA : Nat} {t : mo_T} {y : st_Y} (hA : cr_A G J aA t y) (htg : aw_tg G) (h : cr_ag G K w J J1) (k1 : cr_kI K) (k2 : cr_kA K) : cr_A G J1 aA t y := by
  obtain ⟨⟨co, c1, c2⟩, c3⟩ := hA
  exact ⟨⟨co, h.q htg c1 (by decide) (by decide) (k1.2.2.2 _), c2⟩, fun i q1 q2 => (c3 i q1 q2).ag htg h k1 k2⟩
/-- the sheets in use; no two of them share a cell -/
def cr_lv (t : mo_T) (k : Int) : Prop := (0 ≤ k ∧ k ≤ 9) ∨ ∃ l i, (1 ≤ l ∧ l ≤ 40) ∧ ¬ t.1 5 l = 0 ∧ (0 ≤ i ∧ i < t.1 8 l) ∧ k = 10 + 4 * l + i
def cr_I (t : mo_T) (y : st_Y) : Prop := ∀ k k', cr_lv t k → cr_lv t k' → (yA y k = yA y k' ∨ yFA y k = yFA y k' ∨ yDA y k = yDA y k') → k = k'
/-- the loaders' row -/
def cr_L (G : aw_G) (J : aw_J) (aL : Nat) (t : mo_T) (y : st_Y) : Prop := (∃ cL : Nat → Option Nat, J aL = some (.inl (G.2.2.1 5, 41, .inr (.inr (.inr (.inr cL))))) ∧ ∀ l, 0 ≤ l → l ≤ 40 → (t.1 5 l = 0 → cL l.toNat = none) ∧ (¬ t.1 5 l = 0 → cL l.toNat = some (yLo y l))) ∧ ∀ l, 0 ≤ l → l ≤ 40 → ¬ t.1 5 l = 0 → st_LD G J t y l
theorem cr_L.ag {aL : Nat} {t : mo_T} {y : st_Y} (hL : cr_L G J aL t y) (htg : aw_tg G) (h : cr_ag G K w J J1) (k1 : cr_kI K) (k2 : cr_kA K) (k3 : K 0 4 = false) (k4 : K 5 41 = false) : cr_L G J1 aL t y := by
  obtain ⟨⟨co, c1, c2⟩, c3⟩ := hL
  refine ⟨⟨co, h.q htg c1 (by decide) (by decide) k4, c2⟩, fun l q1 q2 q3 => ?_⟩
  have c := cr_LB.iff.mp (c3 l q1 q2 q3)
  exact cr_LB.iff.mpr ⟨h.o c.1 k3, c.2.ag htg h k1 k2⟩
def cr_H (s : mo_S) (y : st_Y) : Prop := ∀ l, 0 ≤ l → l ≤ 40 → ¬ s.2.1 5 l = 0 → yHo y l = mo_hold s l ∧ yDc y l = mo_dc (s.2.1 26) l (s.1 24 - 8).toNat
/-- scopes, types and the rows of ScopeTree: where they lie. 0: the six rows; 1 scope, 2 its path, 3 the path's row, 4 the exported path, 5 its row, 6 what is applied, 7 filter; 8 type, 9 its definer -/
abbrev cr_Z : Type := Nat → Int → Nat
def cr_k3 (t : mo_T) (y : st_Y) (i : Int) (r1 r2 r3 : Option Nat) : Prop := t.1 13 i = 1 → (1 ≤ i → r1 = some (yLo y (t.1 21 (3 * i)))) ∧ r2 = some (yLo y (t.1 21 (3 * i + 1))) ∧ r3 = some (yLo y (t.1 21 (3 * i + 2)))
def cr_pt (G : aw_G) (J : aw_J) (p pa : Nat) (n : Int) (f : Int → Int) : Prop := ∃ P, st_P G J p pa n P ∧ ∀ j, 0 ≤ j → j < n → P j = f j
def cr_S1 (G : aw_G) (J : aw_J) (t : mo_T) (y : st_Y) (z : cr_Z) (i : Int) : Prop := (∃ r1 r2 r3, st_S J (z 1 i) (if i = 0 then none else some (z 1 (t.1 14 i))) (z 2 i) (z 4 i) (if t.1 17 i = 0 then none else some (z 7 i)) (G.2.2.2.1 (t.1 13 i).toNat) r1 r2 r3 (z 6 i) (t.1 23 i) ∧ cr_k3 t y i r1 r2 r3) ∧ cr_pt G J (z 2 i) (z 3 i) (t.1 16 (2 * i)) (fun j => t.1 15 (8 * i + j)) ∧ cr_pt G J (z 4 i) (z 5 i) (t.1 16 (2 * i + 1)) (fun j => t.1 15 (8 * i + 4 + j)) ∧ (¬ t.1 17 i = 0 → J (z 7 i) = some (.inr (3, [.int (iI (t.1 18 i)), .long (t.2 19 i), .long (t.2 20 i)]))) ∧ ∃ ap, st_AP G J (z 6 i) ap (t.1 23 i) (fun j => z 8 (t.1 22 (8 * i + j)))
def cr_kS (K : Nat → Nat → Bool) : Prop := K 0 6 = false ∧ K 0 5 = false ∧ K 1 4 = false ∧ K 6 8 = false
theorem st_P.ag {p pa : Nat} {n : Int} {P : Int → Int} (hP : st_P G J p pa n P) (h : cr_ag G K w J J1) (k1 : K 0 5 = false) (k2 : K 1 4 = false) : st_P G J1 p pa n P := ⟨h.o hP.1 k1, h.i hP.2.1 k2 (fun z => absurd z (by decide)), hP.2.2⟩
theorem cr_pt.ag {p pa : Nat} {n : Int} {f : Int → Int} (hP : cr_pt G J p pa n f) (h : cr_ag G K w J J1) (k1 : K 0 5 = false) (k2 : K 1 4 = false) : cr_pt G J1 p pa n f := by
  obtain ⟨P, p1, p2⟩ := hP
  exact ⟨P, p1.ag h k1 k2, p2⟩
theorem st_AP.ag {aa : Nat} {ap : Nat → Option Nat} {n : Int} {T : Int → Nat} (hP : st_AP G J aa ap n T) (htg : aw_tg G) (h : cr_ag G K w J J1) (k : K 6 8 = false) : st_AP G J1 aa ap n T := ⟨h.q htg hP.1 (by decide) (by decide) k, hP.2⟩
theorem cr_S1.ag {t : mo_T} {y : st_Y} {z : cr_Z} {i : Int} (hS : cr_S1 G J t y z i) (htg : aw_tg G) (h : cr_ag G K w J J1) (k1 : cr_kI K) (k2 : cr_kS K) : cr_S1 G J1 t y z i := by
  obtain ⟨⟨r1, r2, r3, s1, s2⟩, p1, p2, f, ap, a⟩ := hS
  exact ⟨⟨r1, r2, r3, h.o s1 k2.1, s2⟩, p1.ag h k2.2.1 k2.2.2.1, p2.ag h k2.2.1 k2.2.2.1, fun q => h.o (f q) k1.2.2.1, ap, a.ag htg h k2.2.2.2⟩
def cr_S (G : aw_G) (J : aw_J) (s : mo_S) (y : st_Y) (z : cr_Z) : Prop := (∃ cS : Nat → Option Nat, J (z 0 1) = some (.inl (G.2.2.1 4, 12, .inr (.inr (.inr (.inr cS))))) ∧ ∀ i, 0 ≤ i → i < s.1 12 → cS i.toNat = some (z 1 i)) ∧ ∀ i, 0 ≤ i → i < s.1 12 → cr_S1 G J s.2 y z i
theorem cr_S.ag {s : mo_S} {y : st_Y} {z : cr_Z} (hS : cr_S G J s y z) (htg : aw_tg G) (h : cr_ag G K w J J1) (k1 : cr_kI K) (k2 : cr_kS K) (k3 : K 4 12 = false) : cr_S G J1 s y z := by
  obtain ⟨⟨co, c1, c2⟩, c3⟩ := hS
  exact ⟨⟨co, h.q htg c1 (by decide) (by decide) k3, c2⟩, fun i q1 q2 => (c3 i q1 q2).ag htg h k1 k2⟩
def cr_SI (n : Int) (z : cr_Z) : Prop := (∀ i j, 0 ≤ i → i < n → 0 ≤ j → j < n → (z 1 i = z 1 j ∨ z 2 i = z 2 j ∨ z 3 i = z 3 j ∨ z 4 i = z 4 j ∨ z 5 i = z 5 j ∨ z 6 i = z 6 j) → i = j) ∧ ∀ i j, 0 ≤ i → i < n → 0 ≤ j → j < n → z 2 i ≠ z 4 j ∧ z 3 i ≠ z 5 j
/-- who defined the type c -/
def cr_D (J : aw_J) (t : mo_T) (y : st_Y) (z : cr_Z) (c : Int) : Prop := (0 ≤ t.1 26 c → z 9 c = yLo y (t.1 26 c)) ∧ (t.1 26 c < 0 → ∃ l k rp ca rf h dc, st_L J (z 9 c) l k rp ca rf h dc 1)
def cr_T (G : aw_G) (J : aw_J) (s : mo_S) (y : st_Y) (z : cr_Z) : Prop := (∃ cT, st_TY G J (z 0 3) cT (s.1 24) (z 8) (s.2.1 25) (s.2.1 27) (fun c => some (z 9 c)) (s.2.1 28)) ∧ ∀ c, 0 ≤ c → c < s.1 24 → cr_D J s.2 y z c
theorem st_TY.ag {aT : Nat} {cT : Nat → Option Nat} {nT : Int} {Ty : Int → Nat} {nm vr : Int → Int} {D : Int → Option Nat} {sup : Int → Int} (hY : st_TY G J aT cT nT Ty nm vr D sup) (htg : aw_tg G) (h : cr_ag G K w J J1) (k1 : K 6 120 = false) (k2 : K 0 7 = false) : st_TY G J1 aT cT nT Ty nm vr D sup := ⟨h.q htg hY.1 (by decide) (by decide) k1, hY.2.1, fun c q1 q2 => ⟨(hY.2.2 c q1 q2).1, (hY.2.2 c q1 q2).2.1, h.o (hY.2.2 c q1 q2).2.2 k2⟩⟩
theorem cr_D.ag {t : mo_T} {y : st_Y} {z : cr_Z} {c : Int} (hD : cr_D J t y z c) (h : cr_ag G K w J J1) (k : K 0 4 = false) : cr_D J1 t y z c := ⟨hD.1, fun q => by
  obtain ⟨l, k1, rp, ca, rf, h1, dc, e⟩ := hD.2 q
  exact ⟨l, k1, rp, ca, rf, h1, dc, h.o e k⟩⟩
theorem cr_T.ag {s : mo_S} {y : st_Y} {z : cr_Z} (hT : cr_T G J s y z) (htg : aw_tg G) (h : cr_ag G K w J J1) (k1 : K 6 120 = false) (k2 : K 0 7 = false) (k3 : K 0 4 = false) : cr_T G J1 s y z := by
  obtain ⟨⟨cT, c1⟩, c2⟩ := hT
  exact ⟨⟨cT, c1.ag htg h k1 k2⟩, fun c q1 q2 => (c2 c q1 q2).ag h k3⟩
/-- the rows of what is being defined -/
def cr_O (G : aw_G) (J : aw_J) (z : cr_Z) : Prop := (∃ oL : Nat → Option Nat, J (z 0 4) = some (.inl (G.2.2.1 5, 8, .inr (.inr (.inr (.inr oL)))))) ∧ ∃ oN : Int → Int, J (z 0 5) = some (.inl (G.2.2.1 0, 8, .inl (fun j : Nat => iI (oN (j : Int))))) ∧ ∀ j, iB (oN j)
/-- the class's heap for the state s, but for the counts of holders and definitions -/
def C0 (G : aw_G) (x : Nat) (y : st_Y) (z : cr_Z) (J : aw_J) (s : mo_S) : Prop := st_T J x (z 0 0) (z 0 1) (z 0 2) (z 0 3) (z 0 4) (z 0 5) (s.1 12) (s.1 24) ∧ cr_A G J (z 0 0) s.2 y ∧ cr_I s.2 y ∧ cr_L G J (z 0 2) s.2 y ∧ cr_S G J s y z ∧ cr_SI (s.1 12) z ∧ cr_T G J s y z ∧ cr_O G J z
def CR (G : aw_G) (x : Nat) (y : st_Y) (z : cr_Z) (J : aw_J) (s : mo_S) : Prop := C0 G x y z J s ∧ cr_H s y
/-- nothing of the class's -/
def cr_kN (K : Nat → Nat → Bool) : Prop := cr_kI K ∧ cr_kA K ∧ cr_kS K ∧ K 0 4 = false ∧ K 5 41 = false ∧ K 4 12 = false ∧ K 6 120 = false ∧ K 0 7 = false ∧ K 0 8 = false ∧ K 5 8 = false
theorem C0.ag {x : Nat} {y : st_Y} {z : cr_Z} {s : mo_S} (h : C0 G x y z J s) (htg : aw_tg G) (hg : cr_ag G K w J J1) (k : cr_kN K) (hN : J1 (z 0 5) = J (z 0 5)) : C0 G x y z J1 s := by
  obtain ⟨h1, h2, h3, h4, h6, h7, h8, ⟨oL, h9⟩, h10⟩ := h
  obtain ⟨k1, k2, k3, k4, k5, k6, k7, k8, k9, k10⟩ := k
  exact ⟨hg.o h1 k9, h2.ag htg hg k1 k2, h3, h4.ag htg hg k1 k2 k4 k5, h6.ag htg hg k1 k3 k6, h7, h8.ag htg hg k7 k8 k4, ⟨oL, hg.q htg h9 (by decide) (by decide) k10⟩, by rw [hN]; exact h10⟩
/-- the state's fields that the class's heap tells -/
def cr_eq (s s' : mo_S) : Prop := s'.1 12 = s.1 12 ∧ s'.1 24 = s.1 24 ∧ (∀ k, k ≤ 28 → s'.2.1 k = s.2.1 k) ∧ s'.2.2 = s.2.2
theorem mo_hold_cg {s s' : mo_S} (h12 : s'.1 12 = s.1 12) (h5 : s'.2.1 5 = s.2.1 5) (h7 : s'.2.1 7 = s.2.1 7) (h13 : s'.2.1 13 = s.2.1 13) (h21 : s'.2.1 21 = s.2.1 21) (l : Int) : mo_hold s' l = mo_hold s l := by
  have e1 : ∀ n, mo_hk s' l n = mo_hk s l n := by
    intro n
    induction n with
    | zero => rfl
    | succ n ih => rw [mo_hk, mo_hk, ih, h5, h7]
  have e2 : ∀ t n, mo_h3 s' l t n = mo_h3 s l t n := by
    intro t n
    induction n with
    | zero => rfl
    | succ n ih => rw [mo_h3, mo_h3, ih, h21]
  have e3 : ∀ n, mo_hs s' l n = mo_hs s l n := by
    intro n
    induction n with
    | zero => rfl
    | succ n ih => rw [mo_hs, mo_hs, ih, h13, e2]
  rw [mo_hold, mo_hold, e1, e3, h12]
theorem C0.cg {x : Nat} {y : st_Y} {z : cr_Z} {s s' : mo_S} (h : C0 G x y z J s) (e : cr_eq s s') : C0 G x y z J s' := by
  obtain ⟨e1, e2, e3, e4⟩ := e
  have a1 := e3 1 (by decide)
  have a2 := e3 2 (by decide)
  have a3 := e3 3 (by decide)
  have a4 := e3 4 (by decide)
  have a5 := e3 5 (by decide)
  have a6 := e3 6 (by decide)
  have a7 := e3 7 (by decide)
  have a8 := e3 8 (by decide)
  have a9 := e3 9 (by decide)
  have a13 := e3 13 (by decide)
  have a14 := e3 14 (by decide)
  have a15 := e3 15 (by decide)
  have a16 := e3 16 (by decide)
  have a17 := e3 17 (by decide)
  have a18 := e3 18 (by decide)
  have a21 := e3 21 (by decide)
  have a22 := e3 22 (by decide)
  have a23 := e3 23 (by decide)
  have a25 := e3 25 (by decide)
  have a26 := e3 26 (by decide)
  have a27 := e3 27 (by decide)
  have a28 := e3 28 (by decide)
  have b1 : cr_lv s'.2 = cr_lv s.2 := by
    funext k
    simp only [cr_lv, a5, a8]
  have b2 : cr_st G J s'.2 = cr_st G J s.2 := by
    funext y k
    simp only [cr_st, a1, a2, a3, a4]
  have b3 : cr_LB G J s'.2 = cr_LB G J s.2 := by
    funext y l
    simp only [cr_LB, b2, a6, a8, a9, e4]
  have b4 : ∀ l, st_LD G J s'.2 y l ↔ st_LD G J s.2 y l := by
    intro l
    rw [cr_LB.iff, cr_LB.iff, b3]
    simp only [st_pa, a6, a7]
  have b5 : cr_S1 G J s'.2 = cr_S1 G J s.2 := by
    funext y z i
    simp only [cr_S1, cr_k3, a13, a14, a15, a16, a17, a18, a21, a22, a23, e4]
  have b6 : cr_D J s'.2 = cr_D J s.2 := by
    funext y z c
    simp only [cr_D, a26]
  obtain ⟨h1, h2, h3, h4, h6, h7, h8, h9⟩ := h
  refine ⟨by rw [e1, e2]; exact h1, ?_, ?_, ?_, ?_, by rw [e1]; exact h7, ?_, h9⟩
  · exact ⟨h2.1, fun a q1 q2 => by rw [b2]; exact h2.2 a q1 q2⟩
  · exact fun k k' q1 q2 => h3 k k' (by rw [← b1]; exact q1) (by rw [← b1]; exact q2)
  · obtain ⟨⟨c, c1, c2⟩, c3⟩ := h4
    exact ⟨⟨c, c1, fun l q1 q2 => by rw [a5]; exact c2 l q1 q2⟩, fun l q1 q2 q3 => (b4 l).mpr (c3 l q1 q2 (by rw [← a5]; exact q3))⟩
  · obtain ⟨⟨c, c1, c2⟩, c3⟩ := h6
    exact ⟨⟨c, c1, fun l q1 q2 => c2 l q1 (by rw [← e1]; exact q2)⟩, fun l q1 q2 => by rw [b5]; exact c3 l q1 (by rw [← e1]; exact q2)⟩
  · obtain ⟨⟨c, c1⟩, c3⟩ := h8
    exact ⟨⟨c, by rw [e2, a25, a27, a28]; exact c1⟩, fun l q1 q2 => by rw [b6]; exact c3 l q1 (by rw [← e2]; exact q2)⟩
theorem CR.cg {x : Nat} {y : st_Y} {z : cr_Z} {s s' : mo_S} (h : CR G x y z J s) (e : cr_eq s s') : CR G x y z J s' := by
  refine ⟨h.1.cg e, fun l q1 q2 q3 => ?_⟩
  have a5 := e.2.2.1 5 (by decide)
  have := h.2 l q1 q2 (by rw [← a5]; exact q3)
  rw [mo_hold_cg e.1 a5 (e.2.2.1 7 (by decide)) (e.2.2.1 13 (by decide)) (e.2.2.1 21 (by decide)), e.2.1, e.2.2.1 26 (by decide)]
  exact this
theorem cr_eq.uz (s : mo_S) (v : Int) : cr_eq s (mo_uz s 0 v) := ⟨rfl, rfl, fun _ _ => rfl, rfl⟩
theorem cr_eq.tr {s s1 s2 : mo_S} (h : cr_eq s s1) (h' : cr_eq s1 s2) : cr_eq s s2 := ⟨h'.1.trans h.1, h'.2.1.trans h.2.1, fun k q => (h'.2.2.1 k q).trans (h.2.2.1 k q), h'.2.2.2.trans h.2.2.2⟩
theorem cr_eq.ff (s : mo_S) (p q : Int → Int) (x y : Int) : cr_eq s (mo_ff (mo_wq s p q) x y) := ⟨rfl, rfl, fun k q => mo_wq_o s _ _ (by omega), rfl⟩
/-- what the reference writes -/
def cr_kR : Nat → Nat → Bool := fun i n => (i == 0 && n == 9) || (i == 1 && n != 4) || i == 2
theorem cr_kR_N : cr_kN cr_kR := ⟨⟨rfl, rfl, rfl, fun _ => rfl⟩, ⟨rfl, rfl, rfl⟩, ⟨rfl, rfl, rfl, rfl⟩, rfl, rfl, rfl, rfl, rfl, rfl, rfl⟩
theorem mo_len_4 (k : Nat) : mo_len k ≠ 4 := by
  unfold mo_len
  split <;> decide
theorem mo_F.ag {b : Nat} {ad : Nat → Nat} {s : mo_S} (hP : mo_P G b ad s J) (hF : mo_F b ad J J1) : cr_ag G cr_kR w J J1 := by
  intro a e hJ hk _
  refine (hF a (fun z => ?_) (fun k q z => ?_)).trans hJ
  · rw [z, hP.1] at hJ
    cases hJ
    have := hk 0 9 ⟨rfl, rfl⟩
    cases this
  · rw [z, hP.2.1 k q] at hJ
    cases hJ
    have h4 := mo_len_4 k
    unfold mo_arr at hk
    split at hk
    · have := hk 1 _ ⟨rfl, rfl⟩
      simp [cr_kR, h4] at this
    · have := hk 1 _ ⟨rfl, rfl⟩
      simp [cr_kR, h4] at this
    · have := hk 2 _ ⟨rfl, rfl⟩
      simp [cr_kR] at this
/-- what the class writes -/
def cr_kC : Nat → Nat → Bool := fun i n => (i == 0 && (n == 0 || n == 4 || n == 5 || n == 6 || n == 8)) || (i == 1 && n == 4) || (i == 4 && n == 12) || (i == 5 && (n == 41 || n == 8)) || (i == 6 && (n == 120 || n == 8)) || (i == 7 && n == 8) || (i == 8 && n == 4)
theorem mo_P.ag {b : Nat} {ad : Nat → Nat} {s : mo_S} (hP : mo_P G b ad s J) (h : cr_ag G cr_kC w J J1) (hw : ∀ k, mo_isA k = true → ad k ≠ w) : mo_P G b ad s J1 := by
  refine ⟨h.o hP.1 rfl, fun k q => ?_, hP.2.2⟩
  have h1 := hP.2.1 k q
  have h4 := mo_len_4 k
  unfold mo_arr at h1 ⊢
  split at h1
  · exact h.i h1 (by simp [cr_kC, h4]) (fun _ => hw k q)
  · exact h.i h1 (by simp [cr_kC, h4]) (fun _ => hw k q)
  · exact h.j h1 (by simp [cr_kC])
theorem mo_F.CR {b x : Nat} {ad : Nat → Nat} {s s0 : mo_S} {y : st_Y} {z : cr_Z} (hP : mo_P G b ad s0 J) (hF : mo_F b ad J J1) (h : CR G x y z J s) (htg : aw_tg G) (hw : ∀ k, mo_isA k = true → ad k ≠ z 0 5) : CR G x y z J1 s := by
  refine ⟨h.1.ag htg (mo_F.ag (w := 0) hP hF) cr_kR_N (hF _ (fun e => ?_) (fun k q e => hw k q e.symm)), h.2⟩
  obtain ⟨oN, h1, _⟩ := h.1.2.2.2.2.2.2.2.2
  rw [e, hP.1] at h1
  cases h1
/-- a call has come to the state s' and the heap J' -/
def cr_to (G : aw_G) (x : Nat) (z : cr_Z) (J : aw_J) (s' : mo_S) (J' : aw_J) : Prop := ∃ y' z', CR G x y' z' J' s' ∧ z' 0 5 = z 0 5 ∧ cr_ag G cr_kC (z 0 5) J J'
theorem CR.to {x : Nat} {y : st_Y} {z : cr_Z} {s : mo_S} (h : CR G x y z J s) : cr_to G x z J s J := ⟨y, z, h, rfl, cr_ag.rf⟩
theorem cr_to.cg {x : Nat} {z : cr_Z} {s s' : mo_S} (h : cr_to G x z J s J1) (e : cr_eq s s') : cr_to G x z J s' J1 := by
  obtain ⟨y', z', h1, h2⟩ := h
  exact ⟨y', z', h1.cg e, h2⟩
end CR1
/-! how the class's heap follows a change of the state: a sheet, a scope -/
section CR2
variable {G : aw_G} {J J1 : aw_J} {K : Nat → Nat → Bool} {w x : Nat} {y : st_Y} {z : cr_Z} {s s' : mo_S}
theorem cr_S.cg (h : cr_S G J s y z) (e1 : s'.1 12 = s.1 12) (e3 : ∀ k, 13 ≤ k → k ≤ 23 → s'.2.1 k = s.2.1 k) (e4 : s'.2.2 = s.2.2) : cr_S G J s' y z := by
  have a13 := e3 13 (by decide) (by decide)
  have a14 := e3 14 (by decide) (by decide)
  have a15 := e3 15 (by decide) (by decide)
  have a16 := e3 16 (by decide) (by decide)
  have a17 := e3 17 (by decide) (by decide)
  have a18 := e3 18 (by decide) (by decide)
  have a21 := e3 21 (by decide) (by decide)
  have a22 := e3 22 (by decide) (by decide)
  have a23 := e3 23 (by decide) (by decide)
  have b5 : cr_S1 G J s'.2 = cr_S1 G J s.2 := by
    funext y z i
    simp only [cr_S1, cr_k3, a13, a14, a15, a16, a17, a18, a21, a22, a23, e4]
  obtain ⟨⟨c, c1, c2⟩, c3⟩ := h
  exact ⟨⟨c, c1, fun l q1 q2 => c2 l q1 (by rw [← e1]; exact q2)⟩, fun l q1 q2 => by rw [b5]; exact c3 l q1 (by rw [← e1]; exact q2)⟩
theorem cr_T.cg (h : cr_T G J s y z) (e2 : s'.1 24 = s.1 24) (e3 : ∀ k, 25 ≤ k → k ≤ 28 → s'.2.1 k = s.2.1 k) : cr_T G J s' y z := by
  have a25 := e3 25 (by decide) (by decide)
  have a26 := e3 26 (by decide) (by decide)
  have a27 := e3 27 (by decide) (by decide)
  have a28 := e3 28 (by decide) (by decide)
  have b6 : cr_D J s'.2 = cr_D J s.2 := by
    funext y z c
    simp only [cr_D, a26]
  obtain ⟨⟨c, c1⟩, c3⟩ := h
  exact ⟨⟨c, by rw [e2, a25, a27, a28]; exact c1⟩, fun l q1 q2 => by rw [b6]; exact c3 l q1 (by rw [← e2]; exact q2)⟩
theorem cr_st.she {k : Int} (h : cr_st G J s.2 y k) (e : mo_she s k s' k) : cr_st G J s'.2 y k := by
  obtain ⟨e1, e2, e3, e4⟩ := e
  obtain ⟨h1, h2, h3⟩ := h
  have b1 := h1.2.2.2.1
  have b2 := h1.2.2.2.2
  refine ⟨by rw [e1, e2]; exact h1, ?_, ?_⟩
  · intro j q1 q2
    rw [e1] at q2
    have := h2 j q1 q2
    have f0 := e3 (3 * j) (by omega) (by omega)
    have f1 := e3 (3 * j + 1) (by omega) (by omega)
    have f2 := e3 (3 * j + 2) (by omega) (by omega)
    rw [← Int.add_assoc] at f1 f2
    simp only [f0, f1, f2]
    exact this
  · intro j q1 q2
    rw [e2] at q2
    have := h3 j q1 q2
    have f0 := e4 (2 * j) (by omega) (by omega)
    have f1 := e4 (2 * j + 1) (by omega) (by omega)
    rw [← Int.add_assoc] at f1
    simp only [f0, f1]
    exact this
theorem cr_st.a3 {t : mo_T} {k : Int} (hS : cr_st G J t y k) (h : cr_ag G K w J J1) (k1 : cr_kI K) (e1 : J1 (yA y k) = J (yA y k)) (e2 : J1 (yFA y k) = J (yFA y k)) (e3 : J1 (yDA y k) = J (yDA y k)) : cr_st G J1 t y k := ⟨⟨e1.trans hS.1.1, e2.trans hS.1.2.1, e3.trans hS.1.2.2.1, hS.1.2.2.2⟩, hS.2.1.ag h k1, hS.2.2.ag h k1⟩
abbrev cr_yC (y : st_Y) (CF CD : Int → Nat → Option Nat) : st_Y := (yLo y, yCa y, yRf y, yHo y, yDc y, yA y, yFA y, yDA y, CF, CD)
def cr_kSh : Nat → Nat → Bool := fun i n => (i == 0 && n == 0) || (i == 7 && n == 8) || (i == 8 && n == 4)
/-- the archive i is changed -/
theorem C0.sheet {CF CD : Int → Nat → Option Nat} {i : Int} (htg : aw_tg G) (h : C0 G x y z J s) (h80 : s.2.1 8 0 = 0) (hi : 0 ≤ i ∧ i ≤ 9) (hb : ∀ b e, J b = some e → b ≠ yA y i → b ≠ yFA y i → b ≠ yDA y i → J1 b = some e) (hC : ∀ k, k ≠ i → CF k = yCF y k ∧ CD k = yCD y k) (hs : ∀ k, k ≠ i → mo_she s k s' k) (e12 : s'.1 12 = s.1 12) (e24 : s'.1 24 = s.1 24) (hf : ∀ k, 5 ≤ k → k ≤ 28 → s'.2.1 k = s.2.1 k) (hg : s'.2.2 = s.2.2) (he : cr_st G J1 s'.2 (cr_yC y CF CD) i) : C0 G x (cr_yC y CF CD) z J1 s' ∧ cr_ag G cr_kSh w J J1 := by
  obtain ⟨h1, h2, h3, h4, h6, h7, h8, h9⟩ := h
  have hi2 := h2.2 i hi.1 hi.2
  have ha : cr_ag G cr_kSh w J J1 := by
    intro b e q1 q2 q3
    refine hb b e q1 (fun z => ?_) (fun z => ?_) (fun z => ?_)
    · rw [z, hi2.1.1] at q1
      cases q1
      exact absurd (q2 0 0 ⟨rfl, rfl⟩) (by decide)
    · rw [z, hi2.1.2.1] at q1
      cases q1
      exact absurd (q2 7 8 (cr_shq (by decide) (by decide))) (by decide)
    · rw [z, hi2.1.2.2.1] at q1
      cases q1
      exact absurd (q2 8 4 (cr_shq (by decide) (by decide))) (by decide)
  have kI : cr_kI cr_kSh := ⟨rfl, rfl, rfl, fun _ => rfl⟩
  have a5 := hf 5 (by decide) (by decide)
  have a6 := hf 6 (by decide) (by decide)
  have a7 := hf 7 (by decide) (by decide)
  have a8 := hf 8 (by decide) (by decide)
  have a9 := hf 9 (by decide) (by decide)
  have li : cr_lv s.2 i := Or.inl hi
  have sh : ∀ k, cr_lv s.2 k → k ≠ i → cr_st G J s.2 y k → cr_st G J1 s'.2 (cr_yC y CF CD) k := by
    intro k l1 l2 l3
    have n1 := l3.1.1
    have n2 := l3.1.2.1
    have n3 := l3.1.2.2.1
    have e1 := hb _ _ n1 (fun z => l2 (h3 k i l1 li (Or.inl z))) (aw_ne n1 hi2.1.2.1 (fun z => by cases z)) (aw_ne n1 hi2.1.2.2.1 (fun z => by cases z))
    have e2 := hb _ _ n2 (aw_ne n2 hi2.1.1 (fun z => by cases z)) (fun z => l2 (h3 k i l1 li (Or.inr (Or.inl z)))) (aw_ne n2 hi2.1.2.2.1 (fun z => by injection z with z; injection z with _ z; injection z with z _; exact absurd z (by decide)))
    have e3 := hb _ _ n3 (aw_ne n3 hi2.1.1 (fun z => by cases z)) (aw_ne n3 hi2.1.2.1 (fun z => by injection z with z; injection z with _ z; injection z with z _; exact absurd z (by decide))) (fun z => l2 (h3 k i l1 li (Or.inr (Or.inr z))))
    have := (l3.a3 ha kI (e1.trans n1.symm) (e2.trans n2.symm) (e3.trans n3.symm)).she (hs k l2)
    unfold cr_st at this ⊢
    have c := hC k l2
    show st_A G J1 (yA y k) (yFA y k) (yDA y k) (CF k) (CD k) _ _ ∧ st_CF J1 (CF k) _ _ ∧ st_DE J1 (CD k) _ _
    rw [c.1, c.2]
    exact this
  refine ⟨⟨by rw [e12, e24]; exact ha.o h1 rfl, ?_, ?_, ?_, ?_, by rw [e12]; exact h7, ?_, ?_⟩, ha⟩
  · obtain ⟨⟨co, c1, c2⟩, c3⟩ := h2
    refine ⟨⟨co, ha.q htg c1 (by decide) (by decide) rfl, c2⟩, fun k q1 q2 => ?_⟩
    by_cases e : k = i
    · rw [e]; exact he
    · exact sh k (Or.inl ⟨q1, q2⟩) e (c3 k q1 q2)
  · have b1 : cr_lv s'.2 = cr_lv s.2 := by
      funext k
      simp only [cr_lv, a5, a8]
    exact fun k k' q1 q2 => h3 k k' (by rw [← b1]; exact q1) (by rw [← b1]; exact q2)
  · obtain ⟨⟨c, c1, c2⟩, c3⟩ := h4
    refine ⟨⟨c, ha.q htg c1 (by decide) (by decide) rfl, fun l q1 q2 => by rw [a5]; exact c2 l q1 q2⟩, fun l q1 q2 q3 => ?_⟩
    rw [a5] at q3
    obtain ⟨p1, ⟨co, p2, p3⟩, p4, p5, p6⟩ := cr_LB.iff.mp (c3 l q1 q2 q3)
    refine cr_LB.iff.mpr ⟨?_, ⟨co, ?_, ?_⟩, ?_, ?_, ?_⟩
    · rw [a6]
      show st_L J1 (yLo y l) l _ (if l = 0 then none else some (yLo y (s'.2.1 7 l))) (yCa y l) (yRf y l) (yHo y l) (yDc y l) 0
      rw [a7]
      exact ha.o p1 rfl
    · rw [a8]; exact ha.q htg p2 (by decide) (by decide) rfl
    · rw [a8]; exact p3
    · intro j r1 r2
      rw [a8] at r2
      have hl0 : 1 ≤ l ∨ l = 0 := by omega
      refine sh _ ?_ (by omega) (p4 j r1 r2)
      rcases hl0 with hl0 | hl0
      · exact Or.inr ⟨l, j, ⟨hl0, q2⟩, q3, ⟨r1, by omega⟩, rfl⟩
      · rw [hl0, h80] at r2; omega
    · intro r
      rw [a6] at r
      obtain ⟨fa, f1, f2⟩ := p5 r
      exact ⟨fa, f1, by rw [a9, hg]; exact ha.o f2 rfl⟩
    · rw [a6]; exact p6
  · exact (h6.ag htg ha kI ⟨rfl, rfl, rfl, rfl⟩ rfl).cg e12 (fun k q1 q2 => hf k (by omega) (by omega)) hg
  · exact (h8.ag htg ha rfl rfl rfl).cg e24 (fun k q1 q2 => hf k (by omega) (by omega))
  · obtain ⟨⟨oL, o1⟩, oN, o2, o3⟩ := h9
    exact ⟨⟨oL, ha.q htg o1 (by decide) (by decide) rfl⟩, oN, hb _ _ o2 (aw_ne o2 hi2.1.1 (fun z => by cases z)) (aw_ne o2 hi2.1.2.1 (fun z => by injection z with z; injection z with _ z; injection z with _ z; cases z)) (aw_ne o2 hi2.1.2.2.1 (fun z => by injection z with z; injection z with _ z; injection z with z _; exact absurd z (by decide))), o3⟩

/-! scopes -/
theorem cr_S1.ap {t : mo_T} {i : Int} (hS : cr_S1 G J t y z i) (h : cr_ag G K w J J1) (k1 : cr_kI K) (e1 : J1 (z 1 i) = J (z 1 i)) (e2 : J1 (z 2 i) = J (z 2 i)) (e3 : J1 (z 3 i) = J (z 3 i)) (e4 : J1 (z 4 i) = J (z 4 i)) (e5 : J1 (z 5 i) = J (z 5 i)) (e6 : J1 (z 6 i) = J (z 6 i)) : cr_S1 G J1 t y z i := by
  obtain ⟨⟨r1, r2, r3, s1, s2⟩, ⟨P1, p1, p2⟩, ⟨P2, p3, p4⟩, f, ap, a⟩ := hS
  exact ⟨⟨r1, r2, r3, e1.trans s1, s2⟩, ⟨P1, ⟨e2.trans p1.1, e3.trans p1.2.1, p1.2.2⟩, p2⟩, ⟨P2, ⟨e4.trans p3.1, e5.trans p3.2.1, p3.2.2⟩, p4⟩, fun q => h.o (f q) k1.2.2.1, ap, e6.trans a.1, a.2⟩
/-- the scope j is the same in both -/
def cr_so (s s' : mo_S) (j : Int) : Prop := (s'.2.1 13 j = s.2.1 13 j ∧ s'.2.1 14 j = s.2.1 14 j ∧ s'.2.1 16 (2 * j) = s.2.1 16 (2 * j) ∧ s'.2.1 16 (2 * j + 1) = s.2.1 16 (2 * j + 1) ∧ s'.2.1 17 j = s.2.1 17 j ∧ s'.2.1 18 j = s.2.1 18 j ∧ s'.2.2 19 j = s.2.2 19 j ∧ s'.2.2 20 j = s.2.2 20 j ∧ s'.2.1 23 j = s.2.1 23 j) ∧ (∀ k, 0 ≤ k → k < 8 → s'.2.1 15 (8 * j + k) = s.2.1 15 (8 * j + k)) ∧ (∀ k, 0 ≤ k → k < 8 → s'.2.1 22 (8 * j + k) = s.2.1 22 (8 * j + k)) ∧ (∀ k, 0 ≤ k → k < 3 → s'.2.1 21 (3 * j + k) = s.2.1 21 (3 * j + k))
theorem cr_so.rf (s : mo_S) (j : Int) : cr_so s s j := ⟨⟨rfl, rfl, rfl, rfl, rfl, rfl, rfl, rfl, rfl⟩, fun _ _ _ => rfl, fun _ _ _ => rfl, fun _ _ _ => rfl⟩
theorem cr_S1.so {i : Int} (hS : cr_S1 G J s.2 y z i) (h : cr_so s s' i) : cr_S1 G J s'.2 y z i := by
  obtain ⟨⟨a13, a14, a16, b16, a17, a18, a19, a20, a23⟩, a15, a22, a21⟩ := h
  obtain ⟨⟨r1, r2, r3, s1, s2⟩, ⟨P1, p1, p2⟩, ⟨P2, p3, p4⟩, f, ap, a⟩ := hS
  have c0 := a21 0 (by decide) (by decide)
  have c1 := a21 1 (by decide) (by decide)
  have c2 := a21 2 (by decide) (by decide)
  rw [Int.add_zero] at c0
  refine ⟨⟨r1, r2, r3, ?_, ?_⟩, ⟨P1, ?_, ?_⟩, ⟨P2, ?_, ?_⟩, ?_, ap, ?_⟩
  · rw [a13, a14, a17, a23]; exact s1
  · intro q
    rw [a13] at q
    rw [c0, c1, c2]
    exact s2 q
  · rw [a16]; exact p1
  · intro j q1 q2
    rw [a16] at q2
    have := p1.2.2.1
    exact (p2 j q1 q2).trans (a15 j q1 (by omega)).symm
  · rw [b16]; exact p3
  · intro j q1 q2
    rw [b16] at q2
    have := p3.2.2.1
    have e := a15 (4 + j) (by omega) (by omega)
    rw [← Int.add_assoc] at e
    exact (p4 j q1 q2).trans e.symm
  · rw [a17, a18, a19, a20]; exact f
  · rw [a23]
    refine ⟨a.1, a.2.1, fun j q1 q2 => ?_⟩
    have := a.2.1
    have e := a22 j q1 (by omega)
    exact (a.2.2 j q1 q2).trans (by show some (z 8 (s.2.1 22 (8 * i + j))) = some (z 8 (s'.2.1 22 (8 * i + j))); rw [e])
def cr_z7 (z : cr_Z) (i : Int) (q : Nat) : cr_Z := fun k j => if k = 7 then (if j = i then q else z 7 j) else z k j
def cr_kSc : Nat → Nat → Bool := fun i n => (i == 0 && (n == 5 || n == 6)) || (i == 1 && n == 4) || (i == 6 && n == 8)
theorem cr_kSc_I : cr_kI cr_kSc := ⟨rfl, rfl, rfl, fun _ => rfl⟩
theorem cr_S1.z7 {t : mo_T} {i j : Int} {q : Nat} (hS : cr_S1 G J t y z j) (hne : j ≠ i) : cr_S1 G J t y (cr_z7 z i q) j := by
  have e7 : cr_z7 z i q 7 j = z 7 j := by
    unfold cr_z7
    rw [if_pos rfl, if_neg hne]
  unfold cr_S1 at hS ⊢
  rw [e7]
  exact hS
theorem cr_T.z7 {i : Int} {q : Nat} (h : cr_T G J s y z) : cr_T G J s y (cr_z7 z i q) := h
/-- the scope i is changed -/
theorem C0.scope {i : Int} {q : Nat} (htg : aw_tg G) (h : C0 G x y z J s) (hi : 0 ≤ i ∧ i < s.1 12) (hb : ∀ b e, J b = some e → b ≠ z 1 i → b ≠ z 2 i → b ≠ z 3 i → b ≠ z 4 i → b ≠ z 5 i → b ≠ z 6 i → J1 b = some e) (e12 : s'.1 12 = s.1 12) (e24 : s'.1 24 = s.1 24) (hf : ∀ k, k ≤ 9 ∨ (25 ≤ k ∧ k ≤ 28) → s'.2.1 k = s.2.1 k) (hg : s'.2.2 10 = s.2.2 10 ∧ s'.2.2 11 = s.2.2 11) (hs : ∀ j, j ≠ i → cr_so s s' j) (he : cr_S1 G J1 s'.2 y (cr_z7 z i q) i) : C0 G x y (cr_z7 z i q) J1 s' ∧ cr_ag G cr_kSc w J J1 := by
  obtain ⟨h1, h2, h3, h4, h6, h7, h8, h9⟩ := h
  obtain ⟨⟨cS, c1, c2⟩, c3⟩ := h6
  obtain ⟨⟨r1, r2, r3, s1, s2⟩, ⟨P1, p1, p2⟩, ⟨P2, p3, p4⟩, f, ap, a⟩ := c3 i hi.1 hi.2
  have ha : cr_ag G cr_kSc w J J1 := by
    intro b e q1 q2 q3
    refine hb b e q1 (fun z => ?_) (fun z => ?_) (fun z => ?_) (fun z => ?_) (fun z => ?_) (fun z => ?_)
    · rw [z, s1] at q1
      cases q1
      exact absurd (q2 0 6 ⟨rfl, rfl⟩) (by decide)
    · rw [z, p1.1] at q1
      cases q1
      exact absurd (q2 0 5 ⟨rfl, rfl⟩) (by decide)
    · rw [z, p1.2.1] at q1
      cases q1
      exact absurd (q2 1 4 ⟨rfl, rfl⟩) (by decide)
    · rw [z, p3.1] at q1
      cases q1
      exact absurd (q2 0 5 ⟨rfl, rfl⟩) (by decide)
    · rw [z, p3.2.1] at q1
      cases q1
      exact absurd (q2 1 4 ⟨rfl, rfl⟩) (by decide)
    · rw [z, a.1] at q1
      cases q1
      exact absurd (q2 6 8 (cr_shq (by decide) (by decide))) (by decide)
  have a5 := hf 5 (by decide)
  have a8 := hf 8 (by decide)
  have b2 : cr_st G J1 s'.2 = cr_st G J1 s.2 := by
    funext y k
    simp only [cr_st, hf 1 (by decide), hf 2 (by decide), hf 3 (by decide), hf 4 (by decide)]
  have b1 : cr_lv s'.2 = cr_lv s.2 := by
    funext k
    simp only [cr_lv, a5, a8]
  have b3 : cr_LB G J1 s'.2 = cr_LB G J1 s.2 := by
    funext y l
    simp only [cr_LB, b2, hf 6 (by decide), a8, hf 9 (by decide), hg.1, hg.2]
  refine ⟨⟨by rw [e12, e24]; exact ha.o h1 rfl, ?_, ?_, ?_, ⟨⟨cS, ha.q htg c1 (by decide) (by decide) rfl, ?_⟩, ?_⟩, by rw [e12]; exact h7, ?_, ?_⟩, ha⟩
  · have := h2.ag htg ha cr_kSc_I ⟨rfl, rfl, rfl⟩
    exact ⟨this.1, fun k q1 q2 => by rw [b2]; exact this.2 k q1 q2⟩
  · exact fun k k' q1 q2 => h3 k k' (by rw [← b1]; exact q1) (by rw [← b1]; exact q2)
  · obtain ⟨⟨c, d1, d2⟩, d3⟩ := h4.ag htg ha cr_kSc_I ⟨rfl, rfl, rfl⟩ rfl rfl
    refine ⟨⟨c, d1, fun l q1 q2 => by rw [a5]; exact d2 l q1 q2⟩, fun l q1 q2 q3 => ?_⟩
    rw [cr_LB.iff, b3]
    simp only [st_pa, hf 6 (by decide), hf 7 (by decide)]
    exact cr_LB.iff.mp (d3 l q1 q2 (by rw [← a5]; exact q3))
  · exact fun j q1 q2 => c2 j q1 (by rw [← e12]; exact q2)
  · intro j q1 q2
    rw [e12] at q2
    by_cases e : j = i
    · rw [e]; exact he
    · have sj := c3 j q1 q2
      obtain ⟨⟨r1', r2', r3', s1', s2'⟩, ⟨P1', p1', p2'⟩, ⟨P2', p3', p4'⟩, f', ap', a'⟩ := c3 j q1 q2
      have I := fun m => h7.1 j i q1 q2 hi.1 hi.2 m
      have I2 := h7.2 j i q1 q2 hi.1 hi.2
      have I3 := h7.2 i j hi.1 hi.2 q1 q2
      have x1 := hb _ _ s1' (fun m => e (I (Or.inl m))) (aw_ne s1' p1.1 (fun m => by cases m)) (aw_ne s1' p1.2.1 (fun m => by cases m)) (aw_ne s1' p3.1 (fun m => by cases m)) (aw_ne s1' p3.2.1 (fun m => by cases m)) (aw_ne s1' a.1 (fun m => by cases m))
      have x2 := hb _ _ p1'.1 (aw_ne p1'.1 s1 (fun m => by cases m)) (fun m => e (I (Or.inr (Or.inl m)))) (aw_ne p1'.1 p1.2.1 (fun m => by cases m)) I2.1 (aw_ne p1'.1 p3.2.1 (fun m => by cases m)) (aw_ne p1'.1 a.1 (fun m => by cases m))
      have x3 := hb _ _ p1'.2.1 (aw_ne p1'.2.1 s1 (fun m => by cases m)) (aw_ne p1'.2.1 p1.1 (fun m => by cases m)) (fun m => e (I (Or.inr (Or.inr (Or.inl m))))) (aw_ne p1'.2.1 p3.1 (fun m => by cases m)) I2.2 (aw_ne p1'.2.1 a.1 (fun m => by injection m with m; injection m with _ m; injection m with m _; exact absurd m (by decide)))
      have x4 := hb _ _ p3'.1 (aw_ne p3'.1 s1 (fun m => by cases m)) (fun m => I3.1 m.symm) (aw_ne p3'.1 p1.2.1 (fun m => by cases m)) (fun m => e (I (Or.inr (Or.inr (Or.inr (Or.inl m)))))) (aw_ne p3'.1 p3.2.1 (fun m => by cases m)) (aw_ne p3'.1 a.1 (fun m => by cases m))
      have x5 := hb _ _ p3'.2.1 (aw_ne p3'.2.1 s1 (fun m => by cases m)) (aw_ne p3'.2.1 p1.1 (fun m => by cases m)) (fun m => I3.2 m.symm) (aw_ne p3'.2.1 p3.1 (fun m => by cases m)) (fun m => e (I (Or.inr (Or.inr (Or.inr (Or.inr (Or.inl m))))))) (aw_ne p3'.2.1 a.1 (fun m => by injection m with m; injection m with _ m; injection m with m _; exact absurd m (by decide)))
      have x6 := hb _ _ a'.1 (aw_ne a'.1 s1 (fun m => by cases m)) (aw_ne a'.1 p1.1 (fun m => by cases m)) (aw_ne a'.1 p1.2.1 (fun m => by injection m with m; injection m with _ m; injection m with m _; exact absurd m (by decide))) (aw_ne a'.1 p3.1 (fun m => by cases m)) (aw_ne a'.1 p3.2.1 (fun m => by injection m with m; injection m with _ m; injection m with m _; exact absurd m (by decide))) (fun m => e (I (Or.inr (Or.inr (Or.inr (Or.inr (Or.inr m)))))))
      exact ((sj.ap ha cr_kSc_I (x1.trans s1'.symm) (x2.trans p1'.1.symm) (x3.trans p1'.2.1.symm) (x4.trans p3'.1.symm) (x5.trans p3'.2.1.symm) (x6.trans a'.1.symm)).so (hs j e)).z7 e
  · exact ((h8.ag htg ha rfl rfl rfl).cg e24 (fun k q1 q2 => hf k (Or.inr ⟨q1, q2⟩))).z7
  · obtain ⟨⟨oL, o1⟩, oN, o2, o3⟩ := h9
    exact ⟨⟨oL, ha.q htg o1 (by decide) (by decide) rfl⟩, oN, hb _ _ o2 (aw_ne o2 s1 (fun m => by cases m)) (aw_ne o2 p1.1 (fun m => by cases m)) (aw_ne o2 p1.2.1 (fun m => by injection m with m; injection m with _ m; injection m with m _; exact absurd m (by decide))) (aw_ne o2 p3.1 (fun m => by cases m)) (aw_ne o2 p3.2.1 (fun m => by injection m with m; injection m with _ m; injection m with m _; exact absurd m (by decide))) (aw_ne o2 a.1 (fun m => by injection m with m; injection m with _ m; injection m with _ m; cases m)), o3⟩
end CR2
