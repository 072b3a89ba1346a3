/-! contentsOf -/
section ST17
variable {G : aw_G} {d : Nat} {Q : aw_O → aw_J → Prop} {J : aw_J}
theorem st_A.mn {H : aw_J} (hk : ∀ b v, J b = some v → H b = some v) {a fa da : Nat} {cf cd : Nat → Option Nat} {n m : Int} (h : st_A G J a fa da cf cd n m) : st_A G H a fa da cf cd n m := ⟨hk _ _ h.1, hk _ _ h.2.1, hk _ _ h.2.2.1, h.2.2.2⟩
theorem st_CF.mn {H : aw_J} (hk : ∀ b v, J b = some v → H b = some v) {cf : Nat → Option Nat} {n : Int} {F : Int → Int × Int × Int} (h : st_CF J cf n F) : st_CF H cf n F := fun i q1 q2 => by
  obtain ⟨k1, c, k2, k3⟩ := h i q1 q2
  exact ⟨k1, c, k2, hk _ _ k3⟩
theorem st_DE.mn {H : aw_J} (hk : ∀ b v, J b = some v → H b = some v) {cd : Nat → Option Nat} {n : Int} {E : Int → Int × Int} (h : st_DE J cd n E) : st_DE H cd n E := fun i q1 q2 => by
  obtain ⟨k1, c, k2, k3⟩ := h i q1 q2
  exact ⟨k1, c, k2, hk _ _ k3⟩
/-- i copies are made in H, over J: at B j, with rows fB j, dB j, in the row q of n -/
def st_cs (G : aw_G) (J H : aw_J) (q : Nat) (n i : Int) (P : Int → Int) (cF cD : Int → Nat → Option Nat) (nF nD : Int → Int) (B fB dB : Int → Nat) : Prop := (∃ co : Nat → Option Nat, H q = some (.inl (G.2.2.1 3, n.toNat, .inr (.inr (.inr (.inr co))))) ∧ ∀ j, 0 ≤ j → j < i → co j.toNat = some (B j)) ∧ J q = none ∧ (∀ b v, J b = some v → H b = some v) ∧ (∀ j, 0 ≤ j → j < i → (J (B j) = none ∧ J (fB j) = none ∧ J (dB j) = none) ∧ st_A G H (B j) (fB j) (dB j) (st_cut (cF (P j)) (nF (P j))) (st_cut (cD (P j)) (nD (P j))) (nF (P j)) (nD (P j))) ∧ ∀ j k, 0 ≤ j → j < i → 0 ≤ k → k < i → (B j = B k ∨ fB j = fB k ∨ dB j = dB k) → j = k
def st_u1 (B : Int → Nat) (i : Int) (q : Nat) : Int → Nat := fun j => if j = i then q else B j
theorem st_cs_s {H H' : aw_J} {q q' fq dq : Nat} {n i : Int} {P : Int → Int} {cF cD : Int → Nat → Option Nat} {nF nD : Int → Int} {B fB dB : Int → Nat} {co : Nat → Option Nat} (htg : aw_tg G) (h0 : 0 ≤ i) (h : st_cs G J H q n i P cF cD nF nD B fB dB) (hco : H q = some (.inl (G.2.2.1 3, n.toNat, .inr (.inr (.inr (.inr co)))))) (hcj : ∀ j, 0 ≤ j → j < i → co j.toNat = some (B j)) (h1 : H q' = none) (h2 : H fq = none) (h3 : H dq = none) (hA : st_A G H' q' fq dq (st_cut (cF (P i)) (nF (P i))) (st_cut (cD (P i)) (nD (P i))) (nF (P i)) (nD (P i))) (hb : ∀ b, b ≠ q' → b ≠ fq → b ≠ dq → H' b = H b) : st_cs G J (aw_up H' q (.inl (G.2.2.1 3, n.toNat, .inr (.inr (.inr (.inr (va_up co i.toNat (some q'))))))))  q n (i + 1) P cF cD nF nD (st_u1 B i q') (st_u1 fB i fq) (st_u1 dB i dq) := by
  obtain ⟨-, c2, c3, c4, c5⟩ := h
  have hko : ∀ b v, H b = some v → b ≠ q → (aw_up H' q (.inl (G.2.2.1 3, n.toNat, .inr (.inr (.inr (.inr (va_up co i.toNat (some q')))))))) b = some v := fun b v hv hq => by
    rw [aw_up_n hq, hb b (aw_nf hv h1) (aw_nf hv h2) (aw_nf hv h3), hv]
  have hJn : ∀ b, H b = none → J b = none := fun b hv => by
    cases z : J b with
    | none => rfl
    | some v => rw [c3 b v z] at hv; cases hv
  have eB : ∀ j, j < i → st_u1 B i q' j = B j ∧ st_u1 fB i fq j = fB j ∧ st_u1 dB i dq j = dB j := fun j hj => ⟨if_neg (by omega), if_neg (by omega), if_neg (by omega)⟩
  have eI : st_u1 B i q' i = q' ∧ st_u1 fB i fq i = fq ∧ st_u1 dB i dq i = dq := ⟨if_pos rfl, if_pos rfl, if_pos rfl⟩
  have n1 : q' ≠ q := Ne.symm (aw_nf hco h1)
  have n2 : fq ≠ q := Ne.symm (aw_nf hco h2)
  have n3 : dq ≠ q := Ne.symm (aw_nf hco h3)
  refine ⟨⟨_, aw_up_s, fun j q1 q2 => ?_⟩, c2, fun b v hv => ?_, fun j q1 q2 => ?_, fun j k q1 q2 q3 q4 hz => ?_⟩
  · by_cases e : j = i
    · subst e
      rw [va_up_self, eI.1]
    · rw [va_up_ne _ _ (by omega), hcj j q1 (by omega), (eB j (by omega)).1]
  · exact hko b v (c3 b v hv) (aw_nf hv c2)
  · by_cases e : j = i
    · subst e
      rw [eI.1, eI.2.1, eI.2.2]
      exact ⟨⟨hJn _ h1, hJn _ h2, hJn _ h3⟩, (aw_up_n n1).trans hA.1, (aw_up_n n2).trans hA.2.1, (aw_up_n n3).trans hA.2.2.1, hA.2.2.2⟩
    · have ej := eB j (by omega)
      rw [ej.1, ej.2.1, ej.2.2]
      obtain ⟨k1, k2⟩ := c4 j q1 (by omega)
      refine ⟨k1, hko _ _ k2.1 ?_, hko _ _ k2.2.1 ?_, hko _ _ k2.2.2.1 ?_, k2.2.2.2⟩
      · exact aw_ne k2.1 hco (fun z => by cases z)
      · intro z
        have := k2.2.1
        rw [z, hco] at this
        injection this with this
        injection this with this
        injection this with t1 t2
        exact absurd (htg 3 7 (by decide) (by decide) (by decide) (by decide) t1) (by decide)
      · intro z
        have := k2.2.2.1
        rw [z, hco] at this
        injection this with this
        injection this with this
        injection this with t1 t2
        exact absurd (htg 3 8 (by decide) (by decide) (by decide) (by decide) t1) (by decide)
  · by_cases ej : j = i
    · by_cases ek : k = i
      · omega
      · subst ej
        have e2 := eB k (by omega)
        obtain ⟨_, k2⟩ := c4 k q3 (by omega)
        rw [eI.1, eI.2.1, eI.2.2, e2.1, e2.2.1, e2.2.2] at hz
        rcases hz with z | z | z
        · exact absurd z.symm (aw_nf k2.1 h1)
        · exact absurd z.symm (aw_nf k2.2.1 h2)
        · exact absurd z.symm (aw_nf k2.2.2.1 h3)
    · by_cases ek : k = i
      · subst ek
        have e2 := eB j (by omega)
        obtain ⟨_, k2⟩ := c4 j q1 (by omega)
        rw [eI.1, eI.2.1, eI.2.2, e2.1, e2.2.1, e2.2.2] at hz
        rcases hz with z | z | z
        · exact absurd z (aw_nf k2.1 h1)
        · exact absurd z (aw_nf k2.2.1 h2)
        · exact absurd z (aw_nf k2.2.2.1 h3)
      · have e1 := eB j (by omega)
        have e2 := eB k (by omega)
        rw [e1.1, e1.2.1, e1.2.2, e2.1, e2.2.1, e2.2.2] at hz
        exact c5 j k q1 (by omega) q3 (by omega) hz
theorem sp_contents_l {x aA aS aL aT aO aN : Nat} {nS nT : Int} {pp pa : Nat} {n : Int} {P : Int → Int} {cA : Nat → Option Nat} {A fA dA : Int → Nat} {cF cD : Int → Nat → Option Nat} {nF nD : Int → Int} {F : Int → Int → Int × Int × Int} {E : Int → Int → Int × Int} {q : Nat} (htg : aw_tg G) (hT : st_T J x aA aS aL aT aO aN nS nT) (hAA : J aA = some (.inl (G.2.2.1 3, 10, .inr (.inr (.inr (.inr cA)))))) (hcA : ∀ a, 0 ≤ a → a ≤ 9 → cA a.toNat = some (A a)) (hP : st_P G J pp pa n P) (hPr : ∀ i, 0 ≤ i → i < n → 0 ≤ P i ∧ P i ≤ 9) (hA : ∀ a, 0 ≤ a → a ≤ 9 → st_A G J (A a) (fA a) (dA a) (cF a) (cD a) (nF a) (nD a) ∧ st_CF J (cF a) (nF a) (F a) ∧ st_DE J (cD a) (nD a) (E a)) (hq : ∀ H B fB dB, st_cs G J H q n n P cF cD nF nD B fB dB → Q (.inl (some (.ref q))) H) : ∀ i : Int, i ≤ n → 0 ≤ i → ∀ (H : aw_J) (B fB dB : Int → Nat) (kc ks : Nat), 3 * (n - i) ≤ (kc : Int) → 16 * (n - i) ≤ (ks : Int) → st_cs G J H q n i P cF cD nF nD B fB dB → aw_W G mT_contentsOf (d + 1 + 1) Q 10 [some (.ref x), some (.ref pp), some (.ref q), some (.int (iI i))] [] H kc ks := by
  have hn8 := hP.2.2.1
  refine il_up n (fun i hi ih h0 H B fB dB kc ks hkc hks hcs => ?_)
  obtain ⟨co, hco, hcj⟩ := hcs.1
  have hkp := hcs.2.2.1
  refine aw_iload_n dT_contentsOf_10 rfl ?_
  first | refine aw_aload_n dT_contentsOf_11 rfl ?_ | refine aw_aload_nQ dT_contentsOf_11 rfl ?_ | refine aw_aload_nN dT_contentsOf_11 rfl ?_
  refine aw_get dT_contentsOf_12 fT_286 (hkp _ _ hP.1) rfl ?_
  refine ai_icmp_ge (tgt := 41) dT_contentsOf_15 (by decide) (by omega) (by omega) (fun hb15 => ?_) (fun hb15 => ?_)
  · first | refine aw_aload_n dT_contentsOf_41 rfl ?_ | refine aw_aload_nQ dT_contentsOf_41 rfl ?_ | refine aw_aload_nN dT_contentsOf_41 rfl ?_
    refine aw_aretA dT_contentsOf_42 rfl (by first | exact Or.inr ⟨_, rfl⟩ | exact Or.inl rfl | exact aw_rf_or _) ?_
    have e9 : i = n := by omega
    subst e9
    exact hq H B fB dB hcs
  · first | refine aw_aload_n dT_contentsOf_18 rfl ?_ | refine aw_aload_nQ dT_contentsOf_18 rfl ?_ | refine aw_aload_nN dT_contentsOf_18 rfl ?_
    refine aw_iload_n dT_contentsOf_19 rfl ?_
    first | refine aw_aload_n dT_contentsOf_20 rfl ?_ | refine aw_aload_nQ dT_contentsOf_20 rfl ?_ | refine aw_aload_nN dT_contentsOf_20 rfl ?_
    refine aw_get dT_contentsOf_21 fT_11 (hkp _ _ hT) rfl ?_
    first | refine aw_aload_n dT_contentsOf_24 rfl ?_ | refine aw_aload_nQ dT_contentsOf_24 rfl ?_ | refine aw_aload_nN dT_contentsOf_24 rfl ?_
    refine aw_get dT_contentsOf_25 fT_306 (hkp _ _ hP.1) rfl ?_
    refine aw_iload_n dT_contentsOf_28 rfl ?_
    refine aw_iald dT_contentsOf_29 (hkp _ _ hP.2.1) (iI_in (by omega) (by omega) (by omega)) ?_
    rw [iI_cl (by omega), Int.toNat_of_nonneg h0]
    have hp9 := hPr i h0 (by omega)
    obtain ⟨hA1, hF1, hE1⟩ := hA (P i) hp9.1 hp9.2
    refine aw_aald dT_contentsOf_30 rfl (hkp _ _ hAA) (iI_in (by omega) (by omega) (by omega)) ?_
    rw [iI_cl (by omega), hcA (P i) hp9.1 hp9.2]
    refine aw_callVN0 (mc' := 3) (ms' := 16) (kc' := (kc - 3)) (ks' := (ks - 16)) dT_contentsOf_31 cT_308 (hkp _ _ hA1.1) (Nat.le_of_ble_eq_true rfl) (Nat.le_of_ble_eq_true rfl) (by omega) (by omega) ?_
    refine sp_copy (by omega) (by omega) (hA1.mn hkp) (hF1.mn hkp) (hE1.mn hkp) (fun q2 fq dq H2 h1 h2 h3 _ _ _ hA2 hb => ?_)
    have hqn := aw_nf hco h1
    have hqf := aw_nf hco h2
    have hqd := aw_nf hco h3
    have hcq2 := (hb q hqn hqf hqd).trans hco
    refine aw_aast dT_contentsOf_34 rfl rfl hcq2 hA2.1 (iI_in (by omega) (by omega) (by omega)) ?_
    rw [iI_cl (by omega)]
    refine ai_iinc dT_contentsOf_35 rfl (by decide) rfl ?_
    refine aw_goto (tgt := 10) dT_contentsOf_38 (by decide) ?_
    refine ih (by omega) (by omega) _ (st_u1 B i q2) (st_u1 fB i fq) (st_u1 dB i dq) (kc - 3) (ks - 16) (by omega) (by omega) ?_
    exact st_cs_s htg h0 hcs hco hcj h1 h2 h3 hA2 hb
theorem sp_contents {x aA aS aL aT aO aN : Nat} {nS nT : Int} {pp pa : Nat} {n : Int} {P : Int → Int} {cA : Nat → Option Nat} {A fA dA : Int → Nat} {cF cD : Int → Nat → Option Nat} {nF nD : Int → Int} {F : Int → Int → Int × Int × Int} {E : Int → Int → Int × Int} {kc ks : Nat} (hkc : 13 ≤ kc) (hks : 68 ≤ ks) (hT : st_T J x aA aS aL aT aO aN nS nT) (hAA : J aA = some (.inl (G.2.2.1 3, 10, .inr (.inr (.inr (.inr cA)))))) (hcA : ∀ a, 0 ≤ a → a ≤ 9 → cA a.toNat = some (A a)) (hP : st_P G J pp pa n P) (hPr : ∀ i, 0 ≤ i → i < n → 0 ≤ P i ∧ P i ≤ 9) (hA : ∀ a, 0 ≤ a → a ≤ 9 → st_A G J (A a) (fA a) (dA a) (cF a) (cD a) (nF a) (nD a) ∧ st_CF J (cF a) (nF a) (F a) ∧ st_DE J (cD a) (nD a) (E a)) (hq : ∀ q H B fB dB, st_cs G J H q n n P cF cD nF nD B fB dB → Q (.inl (some (.ref q))) H) : aw_W G mT_contentsOf (d + 1 + 1) Q 0 [some (.ref x), some (.ref pp), none, none] [] J kc ks := by
  refine aw_tags (fun htg => ?_)
  have hn8 := hP.2.2.1
  first | refine aw_aload_n dT_contentsOf_0 rfl ?_ | refine aw_aload_nQ dT_contentsOf_0 rfl ?_ | refine aw_aload_nN dT_contentsOf_0 rfl ?_
  refine aw_get dT_contentsOf_1 fT_286 hP.1 rfl ?_
  refine aw_newQ (t := 3) (N := n.toNat) (kc' := kc - 1) (ks' := ks - n.toNat) dT_contentsOf_4 rfl wT_1_30 (by decide) (by rw [iI_z0]; exact fun z => absurd ((iI_lt (by omega) (by decide)).mp z) (by omega)) (iI_cl (by omega)) (by omega) (by omega) (by omega) (fun q hq0 => ?_)
  first | refine aw_astore_n dT_contentsOf_7 (by decide) rfl ?_ | refine aw_astore_nQ dT_contentsOf_7 (by decide) rfl ?_ | refine aw_astore_nN dT_contentsOf_7 (by decide) rfl ?_
  refine ai_iconst dT_contentsOf_8 ?_
  refine aw_istore_n dT_contentsOf_9 (by decide) rfl ?_
  refine sp_contents_l htg hT hAA hcA hP hPr hA (fun H B fB dB h => hq q H B fB dB h) 0 hn8.1 (by decide) _ (fun _ => 0) (fun _ => 0) (fun _ => 0) (kc - 1) (ks - n.toNat) (by omega) (by omega) ?_
  exact ⟨⟨_, aw_up_s, fun j q1 q2 => absurd q2 (by omega)⟩, hq0, fun b v h => (aw_up_n (aw_nf h hq0)).trans h, fun j q1 q2 => absurd q2 (by omega), fun j k q1 q2 => absurd q2 (by omega)⟩
end ST17
