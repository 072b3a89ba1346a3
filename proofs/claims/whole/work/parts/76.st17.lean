/-! contentsOf -/
section ST17
variable {G : aw_G} {d : Nat} {Q : aw_O → aw_J → Prop} {J : aw_J}
theorem st_A.mn {H : aw_J} (hk : ∀ b v, J b = some v → H b = some v) {a fa da : Nat} {cf cd : Nat → Option Nat} {n m : Int} (h : st_A G J a fa da cf cd n m) : st_A G H a fa da cf cd n m := ⟨hk _ _ h.1, hk _ _ h.2.1, hk _ _ h.2.2.1, h.2.2.2⟩
theorem st_CF.mn {H : aw_J} (hk : ∀ b v, J b = some v → H b = some v) {cf : Nat → Option Nat} {n : Int} {F : Int → Int × Int × Int} (h : st_CF J cf n F) : st_CF H cf n F := fun i q1 q2 => by
  obtain ⟨k1, c, k2, k3⟩ := h i q1 q2
  exact ⟨k1, c, k2, hk _ _ k3⟩
theorem st_DE.mn {H : aw_J} (hk : ∀ b v, J b = some v → H b = some v) {cd : Nat → Option Nat} {n : Int} {E : Int → Int × Int} (h : st_DE J cd n E) : st_DE H cd n E := fun i q1 q2 => by
  obtain ⟨k1, c, k2, k3⟩ := h i q1 q2
  exact ⟨k1, c, k2, hk _ _ k3⟩
/-- i copies are made in H, over J: at B j, with rows fB j, dB j, in the row q of n -/
def st_cs (G : aw_G) (J H : aw_J) (q : Nat) (n i : Int) (P : Int → Int) (cF cD : Int → Nat → Option Nat) (nF nD : Int → Int) (B fB dB : Int → Nat) : Prop := (∃ co : Nat → Option Nat, H q = some (.inl (G.2.2.1 3, n.toNat, .inr (.inr (.inr (.inr co))))) ∧ ∀ j, 0 ≤ j → j < i → co j.toNat = some (B j)) ∧ J q = none ∧ (∀ b v, J b = some v → H b = some v) ∧ (∀ j, 0 ≤ j → j < i → (J (B j) = none ∧ J (fB j) = none ∧ J (dB j) = none) ∧ st_A G H (B j) (fB j) (dB j) (st_cut (cF (P j)) (nF (P j))) (st_cut (cD (P j)) (nD (P j))) (nF (P j)) (nD (P j))) ∧ ∀ j k, 0 ≤ j → j < i → 0 ≤ k → k < i → (B j = B k ∨ fB j = fB k ∨ dB j = dB k) → j = k
def st_u1 (B : Int → Nat) (i : Int) (q : Nat) : Int → Nat := fun j => if j = i then q else B j
theorem st_cs_s {H H' : aw_J} {q q' fq dq : Nat} {n i : Int} {P : Int → Int} {cF cD : Int → Nat → Option Nat} {nF nD : Int → Int} {B fB dB : Int → Nat} {co : Nat → Option Nat} (htg : aw_tg G) (h0 : 0 ≤ i) (h : st_cs G J H q n i P cF cD nF nD B fB dB) (hco : H q = some (.inl (G.2.2.1 3, n.toNat, .inr (.inr (.inr (.inr co)))))) (hcj : ∀ j, 0 ≤ j → j < i → co j.toNat = some (B j)) (h1 : H q' = none) (h2 : H fq = none) (h3 : H dq = none) (hA : st_A G H' q' fq dq (st_cut (cF (P i)) (nF (P i))) (st_cut (cD (P i)) (nD (P i))) (nF (P i)) (nD (P i))) (hb : ∀ b, b ≠ q' → b ≠ fq → b ≠ dq → H' b = H b) : st_cs G J (aw_up H' q (.inl (G.2.2.1 3, n.toNat, .inr (.inr (.inr (.inr (va_up co i.toNat (some q'))))))))  q n (i + 1) P cF cD nF nD (st_u1 B i q') (st_u1 fB i fq) (st_u1 dB i dq) := by
  obtain ⟨-, c2, c3, c4, c5⟩ := h
  have hko : ∀ b v, H b = some v → b ≠ q → (aw_up H' q (.inl (G.2.2.1 3, n.toNat, .inr (.inr (.inr (.inr (va_up co i.toNat (some q')))))))) b = some v := fun b v hv hq => by
    rw [aw_up_n hq, hb b (aw_nf hv h1) (aw_nf hv h2) (aw_nf hv h3), hv]
  have hJn : ∀ b, H b = none → J b = none := fun b hv => by
    cases z : J b with
    | none => rfl
    | some v => rw [c3 b v z] at hv; cases hv
  have eB : ∀ j, j < i → st_u1 B i q' j = B j ∧ st_u1 fB i fq j = fB j ∧ st_u1 dB i dq j = dB j := fun j hj => ⟨if_neg (by omega), if_neg (by omega), if_neg (by omega)⟩
  have eI : st_u1 B i q' i = q' ∧ st_u1 fB i fq i = fq ∧ st_u1 dB i dq i = dq := ⟨if_pos rfl, if_pos rfl, if_pos rfl⟩
  have n1 : q' ≠ q := Ne.symm (aw_nf hco h1)
  have n2 : fq ≠ q := Ne.symm (aw_nf hco h2)
  have n3 : dq ≠ q := Ne.symm (aw_nf hco h3)
  refine ⟨⟨_, aw_up_s, fun j q1 q2 => ?_⟩, c2, fun b v hv => ?_, fun j q1 q2 => ?_, fun j k q1 q2 q3 q4 hz => ?_⟩
  · by_cases e : j = i
    · subst e
      rw [va_up_self, eI.1]
    · rw [va_up_ne _ _ (by omega), hcj j q1 (by omega), (eB j (by omega)).1]
  · exact hko b v (c3 b v hv) (aw_nf hv c2)
  · by_cases e : j = i
    · subst e
      rw [eI.1, eI.2.1, eI.2.2]
      exact ⟨⟨hJn _ h1, hJn _ h2, hJn _ h3⟩, (aw_up_n n1).trans hA.1, (aw_up_n n2).trans hA.2.1, (aw_up_n n3).trans hA.2.2.1, hA.2.2.2⟩
    · have ej := eB j (by omega)
      rw [ej.1, ej.2.1, ej.2.2]
      obtain ⟨k1, k2⟩ := c4 j q1 (by omega)
      refine ⟨k1, hko _ _ k2.1 ?_, hko _ _ k2.2.1 ?_, hko _ _ k2.2.2.1 ?_, k2.2.2.2⟩
      · exact aw_ne k2.1 hco (fun z => by cases z)
      · intro z
        have := k2.2.1
        rw [z, hco] at this
        injection this with this
        injection this with this
        injection this with t1 t2
        exact absurd (htg 3 7 (by decide) (by decide) (by decide) (by decide) t1) (by decide)
      · intro z
        have := k2.2.2.1
        rw [z, hco] at this
        injection this with this
        injection this with this
        injection this with t1 t2
        exact absurd (htg 3 8 (by decide) (by decide) (by decide) (by decide) t1) (by decide)
  · by_cases ej : j = i
    · by_cases ek : k = i
      · omega
      · subst ej
        have e2 := eB k (by omega)
        obtain ⟨_, k2⟩ := c4 k q3 (by omega)
        rw [eI.1, eI.2.1, eI.2.2, e2.1, e2.2.1, e2.2.2] at hz
        rcases hz with z | z | z
        · exact absurd z.symm (aw_nf k2.1 h1)
        · exact absurd z.symm (aw_nf k2.2.1 h2)
        · exact absurd z.symm (aw_nf k2.2.2.1 h3)
    · by_cases ek : k = i
      · subst ek
        have e2 := eB j (by omega)
        obtain ⟨_, k2⟩ := c4 j q1 (by omega)
        rw [eI.1, eI.2.1, eI.2.2, e2.1, e2.2.1, e2.2.2] at hz
        rcases hz with z | z | z
        · exact absurd z (aw_nf k2.1 h1)
        · exact absurd z (aw_nf k2.2.1 h2)
        · exact absurd z (aw_nf k2.2.2.1 h3)
      · have e1 := eB j (by omega)
        have e2 := eB k (by omega)
        rw [e1.1, e1.2.1, e1.2.2, e2.1, e2.2.1, e2.2.2] at hz
        exact c5 j k q1 (by omega) q3 (by omega) hz
end ST17
