/-! the constructor of ScopeTree -/
section ST29
theorem aw_gen {G : aw_G} {d : Nat} {Q : aw_O → aw_J → Prop} {kc ks pc : Nat} {M : aw_M} {L : List (Option Value)} {st : List Value} {H : aw_J} (P : aw_J → Prop) (hP : P H) (k : ∀ H, P H → aw_W G M d Q pc L st H kc ks) : aw_W G M d Q pc L st H kc ks := k H hP
def ci_R (G : aw_G) (x aA aS aL aT aO aN : Nat) (nS nT : Int) (cS cL cT : Nat → Option Nat) (J H : aw_J) : Prop := st_T H x aA aS aL aT aO aN nS nT ∧ H aS = some (.inl (G.2.2.1 4, 12, .inr (.inr (.inr (.inr cS))))) ∧ H aL = some (.inl (G.2.2.1 5, 41, .inr (.inr (.inr (.inr cL))))) ∧ H aT = some (.inl (G.2.2.1 6, 120, .inr (.inr (.inr (.inr cT))))) ∧ H aO = some (.inl (G.2.2.1 5, 8, .inr (.inr (.inr (.inr (fun _ => none)))))) ∧ H aN = some (.inl (G.2.2.1 0, 8, .inl (fun _ => iI 0))) ∧ (∀ b v, J b = some v → b ≠ x → H b = some v) ∧ J aN = none
theorem ci_R.mv {G : aw_G} {x aA aS aL aT aO aN a : Nat} {nS nT : Int} {cS cL cT : Nat → Option Nat} {J H H' : aw_J} {e : va_E} (h : ci_R G x aA aS aL aT aO aN nS nT cS cL cT J H) (ha : H a = some e) (hb : ∀ b v, H b = some v → b ≠ a → H' b = some v) (n1 : e ≠ .inr (8, [.ref aA, .ref aS, .int (iI nS), .ref aL, .ref aT, .int (iI nT), .ref aO, .ref aN])) (n2 : e ≠ .inl (G.2.2.1 4, 12, .inr (.inr (.inr (.inr cS))))) (n3 : e ≠ .inl (G.2.2.1 5, 41, .inr (.inr (.inr (.inr cL))))) (n4 : e ≠ .inl (G.2.2.1 6, 120, .inr (.inr (.inr (.inr cT))))) (n5 : e ≠ .inl (G.2.2.1 5, 8, .inr (.inr (.inr (.inr (fun _ => none)))))) (n6 : e ≠ .inl (G.2.2.1 0, 8, .inl (fun _ => iI 0))) (hja : J a = none) : ci_R G x aA aS aL aT aO aN nS nT cS cL cT J H' := by
  obtain ⟨h1, h2, h3, h4, h5, h6, h7, h8⟩ := h
  exact ⟨hb _ _ h1 (aw_ne h1 ha (fun z => n1 z.symm)), hb _ _ h2 (aw_ne h2 ha (fun z => n2 z.symm)), hb _ _ h3 (aw_ne h3 ha (fun z => n3 z.symm)), hb _ _ h4 (aw_ne h4 ha (fun z => n4 z.symm)), hb _ _ h5 (aw_ne h5 ha (fun z => n5 z.symm)), hb _ _ h6 (aw_ne h6 ha (fun z => n6 z.symm)), fun b v q1 q2 => hb _ _ (h7 b v q1 q2) (fun z => by rw [z, hja] at q1; cases q1), h8⟩
theorem sp_Ti_1 {G : aw_G} {d : Nat} {Q : aw_O → aw_J → Prop} {J : aw_J} {kc ks : Nat} {x : Nat} (hkc : 6 ≤ kc) (hks : 199 ≤ ks) (hJ : J x = some (.inr (8, [.null, .null, .int 0, .null, .null, .int 0, .null, .null]))) (hq : ∀ aA aS aL aT aO aN H, ci_R G x aA aS aL aT aO aN 0 0 (fun _ => none) (fun _ => none) (fun _ => none) J H → H aA = some (.inl (G.2.2.1 3, 10, .inr (.inr (.inr (.inr (fun _ => none)))))) → (J aA = none ∧ J aS = none ∧ J aL = none ∧ J aT = none) → aw_W G mT_init (d + 1) Q 57 [some (.ref x), none, none] [] H (kc - 6) (ks - 199)) : aw_W G mT_init (d + 1) Q 0 [some (.ref x), none, none] [] J kc ks := by
  first | refine aw_aload_n dT_init_0 rfl ?_ | refine aw_aload_nQ dT_init_0 rfl ?_ | refine aw_aload_nN dT_init_0 rfl ?_
  refine aw_oinit dT_init_1 wT_1_27 wOI wOC (Nat.le_of_ble_eq_true rfl) ?_
  first | refine aw_aload_n dT_init_4 rfl ?_ | refine aw_aload_nQ dT_init_4 rfl ?_ | refine aw_aload_nN dT_init_4 rfl ?_
  refine ai_bipush dT_init_5 (by decide +kernel) ?_
  refine aw_newQ (t := 3) (N := 10) (kc' := kc - 1) (ks' := ks - 10) dT_init_7 rfl wT_1_30 (by decide) (by decide) (by decide) (by decide) (by omega) (by omega) (fun aA f0 => ?_)
  refine aw_putF dT_init_10 sT_11 rfl ((aw_up_n (aw_nf hJ f0)).trans hJ) rfl rfl (Nat.le_of_ble_eq_true rfl) ?_
  refine aw_gen (fun H => H x = some (.inr (8, [.ref aA, .null, .int 0, .null, .null, .int 0, .null, .null])) ∧ H aA = some (.inl (G.2.2.1 3, 10, .inr (.inr (.inr (.inr (fun _ => none)))))) ∧ ∀ b v, J b = some v → b ≠ x → H b = some v) ⟨aw_up_s, (aw_up_n (fun z => aw_nf hJ f0 z.symm)).trans aw_up_s, fun b v q1 q2 => (aw_up_n q2).trans ((aw_up_n (aw_nf q1 f0)).trans q1)⟩ (fun H0 g0 => ?_)
  first | refine aw_aload_n dT_init_13 rfl ?_ | refine aw_aload_nQ dT_init_13 rfl ?_ | refine aw_aload_nN dT_init_13 rfl ?_
  refine ai_bipush dT_init_14 (by decide +kernel) ?_
  refine aw_newQ (t := 4) (N := 12) (kc' := kc - 2) (ks' := ks - 22) dT_init_16 rfl wT_1_32 (by decide) (by decide) (by decide) (by decide) (by omega) (by omega) (fun aS f1 => ?_)
  refine aw_putF dT_init_19 sT_17 rfl ((aw_up_n (aw_nf g0.1 f1)).trans g0.1) rfl rfl (Nat.le_of_ble_eq_true rfl) ?_
  refine aw_gen (fun H => H x = some (.inr (8, [.ref aA, .ref aS, .int 0, .null, .null, .int 0, .null, .null])) ∧ H aA = some (.inl (G.2.2.1 3, 10, .inr (.inr (.inr (.inr (fun _ => none)))))) ∧ H aS = some (.inl (G.2.2.1 4, 12, .inr (.inr (.inr (.inr (fun _ => none)))))) ∧ ∀ b v, J b = some v → b ≠ x → H b = some v) ⟨aw_up_s, (aw_up_n (aw_ne g0.2.1 g0.1 (fun z => by cases z))).trans ((aw_up_n (aw_nf g0.2.1 f1)).trans g0.2.1), (aw_up_n (fun z => aw_nf g0.1 f1 z.symm)).trans aw_up_s, fun b v q1 q2 => (aw_up_n q2).trans ((aw_up_n (aw_nf (g0.2.2 b v q1 q2) f1)).trans (g0.2.2 b v q1 q2))⟩ (fun H1 g1 => ?_)
  first | refine aw_aload_n dT_init_22 rfl ?_ | refine aw_aload_nQ dT_init_22 rfl ?_ | refine aw_aload_nN dT_init_22 rfl ?_
  refine ai_bipush dT_init_23 (by decide +kernel) ?_
  refine aw_newQ (t := 5) (N := 41) (kc' := kc - 3) (ks' := ks - 63) dT_init_25 rfl wT_1_34 (by decide) (by decide) (by decide) (by decide) (by omega) (by omega) (fun aL f2 => ?_)
  refine aw_putF dT_init_28 sT_23 rfl ((aw_up_n (aw_nf g1.1 f2)).trans g1.1) rfl rfl (Nat.le_of_ble_eq_true rfl) ?_
  refine aw_gen (fun H => H x = some (.inr (8, [.ref aA, .ref aS, .int 0, .ref aL, .null, .int 0, .null, .null])) ∧ H aA = some (.inl (G.2.2.1 3, 10, .inr (.inr (.inr (.inr (fun _ => none)))))) ∧ H aS = some (.inl (G.2.2.1 4, 12, .inr (.inr (.inr (.inr (fun _ => none)))))) ∧ H aL = some (.inl (G.2.2.1 5, 41, .inr (.inr (.inr (.inr (fun _ => none)))))) ∧ ∀ b v, J b = some v → b ≠ x → H b = some v) ⟨aw_up_s, (aw_up_n (aw_ne g1.2.1 g1.1 (fun z => by cases z))).trans ((aw_up_n (aw_nf g1.2.1 f2)).trans g1.2.1), (aw_up_n (aw_ne g1.2.2.1 g1.1 (fun z => by cases z))).trans ((aw_up_n (aw_nf g1.2.2.1 f2)).trans g1.2.2.1), (aw_up_n (fun z => aw_nf g1.1 f2 z.symm)).trans aw_up_s, fun b v q1 q2 => (aw_up_n q2).trans ((aw_up_n (aw_nf (g1.2.2.2 b v q1 q2) f2)).trans (g1.2.2.2 b v q1 q2))⟩ (fun H2 g2 => ?_)
  first | refine aw_aload_n dT_init_31 rfl ?_ | refine aw_aload_nQ dT_init_31 rfl ?_ | refine aw_aload_nN dT_init_31 rfl ?_
  refine ai_bipush dT_init_32 (by decide +kernel) ?_
  refine aw_newQ (t := 6) (N := 120) (kc' := kc - 4) (ks' := ks - 183) dT_init_34 rfl wT_1_36 (by decide) (by decide) (by decide) (by decide) (by omega) (by omega) (fun aT f3 => ?_)
  refine aw_putF dT_init_37 sT_29 rfl ((aw_up_n (aw_nf g2.1 f3)).trans g2.1) rfl rfl (Nat.le_of_ble_eq_true rfl) ?_
  refine aw_gen (fun H => H x = some (.inr (8, [.ref aA, .ref aS, .int 0, .ref aL, .ref aT, .int 0, .null, .null])) ∧ H aA = some (.inl (G.2.2.1 3, 10, .inr (.inr (.inr (.inr (fun _ => none)))))) ∧ H aS = some (.inl (G.2.2.1 4, 12, .inr (.inr (.inr (.inr (fun _ => none)))))) ∧ H aL = some (.inl (G.2.2.1 5, 41, .inr (.inr (.inr (.inr (fun _ => none)))))) ∧ H aT = some (.inl (G.2.2.1 6, 120, .inr (.inr (.inr (.inr (fun _ => none)))))) ∧ ∀ b v, J b = some v → b ≠ x → H b = some v) ⟨aw_up_s, (aw_up_n (aw_ne g2.2.1 g2.1 (fun z => by cases z))).trans ((aw_up_n (aw_nf g2.2.1 f3)).trans g2.2.1), (aw_up_n (aw_ne g2.2.2.1 g2.1 (fun z => by cases z))).trans ((aw_up_n (aw_nf g2.2.2.1 f3)).trans g2.2.2.1), (aw_up_n (aw_ne g2.2.2.2.1 g2.1 (fun z => by cases z))).trans ((aw_up_n (aw_nf g2.2.2.2.1 f3)).trans g2.2.2.2.1), (aw_up_n (fun z => aw_nf g2.1 f3 z.symm)).trans aw_up_s, fun b v q1 q2 => (aw_up_n q2).trans ((aw_up_n (aw_nf (g2.2.2.2.2 b v q1 q2) f3)).trans (g2.2.2.2.2 b v q1 q2))⟩ (fun H3 g3 => ?_)
  first | refine aw_aload_n dT_init_40 rfl ?_ | refine aw_aload_nQ dT_init_40 rfl ?_ | refine aw_aload_nN dT_init_40 rfl ?_
  refine ai_bipush dT_init_41 (by decide +kernel) ?_
  refine aw_newQ (t := 5) (N := 8) (kc' := kc - 5) (ks' := ks - 191) dT_init_43 rfl wT_1_34 (by decide) (by decide) (by decide) (by decide) (by omega) (by omega) (fun aO f4 => ?_)
  refine aw_putF dT_init_46 sT_33 rfl ((aw_up_n (aw_nf g3.1 f4)).trans g3.1) rfl rfl (Nat.le_of_ble_eq_true rfl) ?_
  refine aw_gen (fun H => H x = some (.inr (8, [.ref aA, .ref aS, .int 0, .ref aL, .ref aT, .int 0, .ref aO, .null])) ∧ H aA = some (.inl (G.2.2.1 3, 10, .inr (.inr (.inr (.inr (fun _ => none)))))) ∧ H aS = some (.inl (G.2.2.1 4, 12, .inr (.inr (.inr (.inr (fun _ => none)))))) ∧ H aL = some (.inl (G.2.2.1 5, 41, .inr (.inr (.inr (.inr (fun _ => none)))))) ∧ H aT = some (.inl (G.2.2.1 6, 120, .inr (.inr (.inr (.inr (fun _ => none)))))) ∧ H aO = some (.inl (G.2.2.1 5, 8, .inr (.inr (.inr (.inr (fun _ => none)))))) ∧ ∀ b v, J b = some v → b ≠ x → H b = some v) ⟨aw_up_s, (aw_up_n (aw_ne g3.2.1 g3.1 (fun z => by cases z))).trans ((aw_up_n (aw_nf g3.2.1 f4)).trans g3.2.1), (aw_up_n (aw_ne g3.2.2.1 g3.1 (fun z => by cases z))).trans ((aw_up_n (aw_nf g3.2.2.1 f4)).trans g3.2.2.1), (aw_up_n (aw_ne g3.2.2.2.1 g3.1 (fun z => by cases z))).trans ((aw_up_n (aw_nf g3.2.2.2.1 f4)).trans g3.2.2.2.1), (aw_up_n (aw_ne g3.2.2.2.2.1 g3.1 (fun z => by cases z))).trans ((aw_up_n (aw_nf g3.2.2.2.2.1 f4)).trans g3.2.2.2.2.1), (aw_up_n (fun z => aw_nf g3.1 f4 z.symm)).trans aw_up_s, fun b v q1 q2 => (aw_up_n q2).trans ((aw_up_n (aw_nf (g3.2.2.2.2.2 b v q1 q2) f4)).trans (g3.2.2.2.2.2 b v q1 q2))⟩ (fun H4 g4 => ?_)
  first | refine aw_aload_n dT_init_49 rfl ?_ | refine aw_aload_nQ dT_init_49 rfl ?_ | refine aw_aload_nN dT_init_49 rfl ?_
  refine ai_bipush dT_init_50 (by decide +kernel) ?_
  refine aw_newI (N := 8) (kc' := kc - 6) (ks' := ks - 199) dT_init_52 wP_I (by decide) (by decide) (by decide) (by omega) (by omega) (fun aN f5 => ?_)
  refine aw_putF dT_init_54 sT_36 rfl ((aw_up_n (aw_nf g4.1 f5)).trans g4.1) rfl rfl (Nat.le_of_ble_eq_true rfl) ?_
  refine aw_gen (fun H => H x = some (.inr (8, [.ref aA, .ref aS, .int 0, .ref aL, .ref aT, .int 0, .ref aO, .ref aN])) ∧ H aA = some (.inl (G.2.2.1 3, 10, .inr (.inr (.inr (.inr (fun _ => none)))))) ∧ H aS = some (.inl (G.2.2.1 4, 12, .inr (.inr (.inr (.inr (fun _ => none)))))) ∧ H aL = some (.inl (G.2.2.1 5, 41, .inr (.inr (.inr (.inr (fun _ => none)))))) ∧ H aT = some (.inl (G.2.2.1 6, 120, .inr (.inr (.inr (.inr (fun _ => none)))))) ∧ H aO = some (.inl (G.2.2.1 5, 8, .inr (.inr (.inr (.inr (fun _ => none)))))) ∧ H aN = some (.inl (G.2.2.1 0, 8, .inl (fun _ => 0))) ∧ ∀ b v, J b = some v → b ≠ x → H b = some v) ⟨aw_up_s, (aw_up_n (aw_ne g4.2.1 g4.1 (fun z => by cases z))).trans ((aw_up_n (aw_nf g4.2.1 f5)).trans g4.2.1), (aw_up_n (aw_ne g4.2.2.1 g4.1 (fun z => by cases z))).trans ((aw_up_n (aw_nf g4.2.2.1 f5)).trans g4.2.2.1), (aw_up_n (aw_ne g4.2.2.2.1 g4.1 (fun z => by cases z))).trans ((aw_up_n (aw_nf g4.2.2.2.1 f5)).trans g4.2.2.2.1), (aw_up_n (aw_ne g4.2.2.2.2.1 g4.1 (fun z => by cases z))).trans ((aw_up_n (aw_nf g4.2.2.2.2.1 f5)).trans g4.2.2.2.2.1), (aw_up_n (aw_ne g4.2.2.2.2.2.1 g4.1 (fun z => by cases z))).trans ((aw_up_n (aw_nf g4.2.2.2.2.2.1 f5)).trans g4.2.2.2.2.2.1), (aw_up_n (fun z => aw_nf g4.1 f5 z.symm)).trans aw_up_s, fun b v q1 q2 => (aw_up_n q2).trans ((aw_up_n (aw_nf (g4.2.2.2.2.2.2 b v q1 q2) f5)).trans (g4.2.2.2.2.2.2 b v q1 q2))⟩ (fun H5 g5 => ?_)
  obtain ⟨k1, k2, k3, k4, k5, k6, k7, k8⟩ := g5
  have jn : ∀ (H : aw_J) (b : Nat), (∀ b v, J b = some v → b ≠ x → H b = some v) → H b = none → b ≠ x → J b = none := fun H b k hb hx => by
    cases e : J b with
    | none => rfl
    | some v => rw [k b v e hx] at hb; cases hb
  refine hq aA aS aL aT aO aN H5 ⟨k1, k3, k4, k5, k6, k7, k8, ?_⟩ k2 ⟨f0, ?_, ?_, ?_⟩
  · exact jn H4 aN g4.2.2.2.2.2.2 f5 (fun z => aw_nf g4.1 f5 z.symm)
  · exact jn H0 aS g0.2.2 f1 (fun z => aw_nf g0.1 f1 z.symm)
  · exact jn H1 aL g1.2.2.2 f2 (fun z => aw_nf g1.1 f2 z.symm)
  · exact jn H2 aT g2.2.2.2.2 f3 (fun z => aw_nf g2.1 f3 z.symm)
def ci_A (G : aw_G) (J H : aw_J) (aA : Nat) (i : Int) (A fA dA : Int → Nat) : Prop := (∃ cA, H aA = some (.inl (G.2.2.1 3, 10, .inr (.inr (.inr (.inr cA))))) ∧ ∀ j, 0 ≤ j → j < i → cA j.toNat = some (A j)) ∧ (∀ j, 0 ≤ j → j < i → st_A G H (A j) (fA j) (dA j) (fun _ => none) (fun _ => none) 0 0 ∧ J (A j) = none ∧ J (fA j) = none ∧ J (dA j) = none) ∧ (∀ j k, 0 ≤ j → j < i → 0 ≤ k → k < i → (A j = A k ∨ fA j = fA k ∨ dA j = dA k) → j = k) ∧ J aA = none
theorem sp_Ti_2 {G : aw_G} {d : Nat} {Q : aw_O → aw_J → Prop} {J : aw_J}  {x aA aS aL aT aO aN kE kS : Nat} (htg : aw_tg G) (hJx : ∃ e, J x = some e) (hq : ∀ H A fA dA, ci_R G x aA aS aL aT aO aN 0 0 (fun _ => none) (fun _ => none) (fun _ => none) J H → ci_A G J H aA 10 A fA dA → aw_W G mT_init (d + 1) Q 84 [some (.ref x), some (.int (iI 10)), none] [] H kE kS) : ∀ i : Int, i ≤ 10 → 0 ≤ i → ∀ (H : aw_J) (A fA dA : Int → Nat) (kc ks : Nat), kE + 3 * (10 - i).toNat ≤ kc → kS + 16 * (10 - i).toNat ≤ ks → ci_R G x aA aS aL aT aO aN 0 0 (fun _ => none) (fun _ => none) (fun _ => none) J H → ci_A G J H aA i A fA dA → aw_W G mT_init (d + 1) Q 59 [some (.ref x), some (.int (iI i)), none] [] H kc ks := by
  refine il_up 10 (fun i hi ih h0 H A fA dA kc ks hkc hks hR hA => ?_)
  obtain ⟨⟨cA, hcA, hcj⟩, hst, hin, hJA⟩ := hA
  refine aw_iload_n dT_init_59 rfl ?_
  refine ai_bipush dT_init_60 (by decide +kernel) ?_
  refine ai_icmp_ge (tgt := 84) dT_init_62 (by decide) (by omega) (by omega) (fun hb62 => ?_) (fun hb62 => ?_)
  · have e9 : i = 10 := by omega
    subst e9
    exact aw_more (Nat.le_refl _) (by omega) (by omega) (hq H A fA dA hR ⟨⟨cA, hcA, hcj⟩, hst, hin, hJA⟩)
  · first | refine aw_aload_n dT_init_65 rfl ?_ | refine aw_aload_nQ dT_init_65 rfl ?_ | refine aw_aload_nN dT_init_65 rfl ?_
    refine aw_get dT_init_66 fT_11 hR.1 rfl ?_
    refine aw_iload_n dT_init_69 rfl ?_
    refine aw_new (kc' := kc - 1) (ks' := ks - 4) dT_init_70 nT_9 (by omega) (by omega) (fun q q0 => ?_)
    refine aw_dup dT_init_73 rfl ?_
    refine aw_callIN0 (mc' := 2) (ms' := 12) (kc' := (kc - 3)) (ks' := (ks - 16)) dT_init_74 cT_40 (Nat.le_of_ble_eq_true rfl) (Nat.le_of_ble_eq_true rfl) (by omega) (by omega) ?_
    refine sp_Ainit (by omega) (by omega) aw_up_s (fun q1 r1 hq1 hr1 nqr => ?_)
    have g : ∀ b v, H b = some v → aw_up H q (.inr (0, [.null, .int 0, .null, .int 0])) b = some v := fun b v m => (aw_up_n (aw_nf m q0)).trans m
    have na0 : aA ≠ q := aw_nf hcA q0
    have na1 : aA ≠ q1 := aw_nf (g _ _ hcA) hq1
    have na2 : aA ≠ r1 := aw_nf (g _ _ hcA) hr1
    have nq1 : q ≠ q1 := aw_nf aw_up_s hq1
    have nr1 : q ≠ r1 := aw_nf aw_up_s hr1
    have up0 : ∀ b, aw_up H q (.inr (0, [.null, .int 0, .null, .int 0])) b = none → H b = none := fun b m => by
      unfold aw_up at m
      split at m
      · cases m
      · exact m
    have jn : ∀ b, H b = none → J b = none := fun b m => by
      cases e : J b with
      | none => rfl
      | some v =>
        by_cases bx : b = x
        · rw [bx, hR.1] at m; cases m
        · rw [hR.2.2.2.2.2.2.1 b v e bx] at m; cases m
    refine aw_aast dT_init_77 rfl rfl ((aw_up_n na0).trans ((aw_up_n na2).trans ((aw_up_n na1).trans ((aw_up_n na0).trans hcA)))) aw_up_s (iI_in (by omega) (by omega) (by omega)) ?_
    rw [iI_cl (by omega)]
    refine aw_gen (fun H' => H' aA = some (.inl (G.2.2.1 3, 10, .inr (.inr (.inr (.inr (va_up cA i.toNat (some q))))))) ∧ st_A G H' q q1 r1 (fun _ => none) (fun _ => none) 0 0 ∧ ∀ b v, H b = some v → b ≠ aA → H' b = some v) ⟨aw_up_s, ⟨(aw_up_n (fun z => na0 z.symm)).trans aw_up_s, (aw_up_n (fun z => na1 z.symm)).trans ((aw_up_n (fun z => nq1 z.symm)).trans ((aw_up_n nqr).trans aw_up_s)), (aw_up_n (fun z => na2 z.symm)).trans ((aw_up_n (fun z => nr1 z.symm)).trans aw_up_s), by decide, by decide⟩, fun b v m1 m2 => (aw_up_n m2).trans ((aw_up_n (aw_nf m1 q0)).trans ((aw_up_n (aw_nf (g b v m1) hr1)).trans ((aw_up_n (aw_nf (g b v m1) hq1)).trans (g b v m1))))⟩ (fun H' hH' => ?_)
    refine ai_iinc dT_init_78 rfl (by decide) rfl ?_
    refine aw_goto (tgt := 59) dT_init_81 (by decide) ?_
    refine ih (by omega) (by omega) H' (st_u1 A i q) (st_u1 fA i q1) (st_u1 dA i r1) (kc - 3) (ks - 16) (by omega) (by omega) (hR.mv hcA hH'.2.2 (fun z => by cases z) (fun z => by injection z with z; injection z with _ z; injection z with z _; exact absurd z (by decide)) (fun z => by injection z with z; injection z with _ z; injection z with z _; exact absurd z (by decide)) (fun z => by injection z with z; injection z with _ z; injection z with z _; exact absurd z (by decide)) (fun z => by injection z with z; injection z with _ z; injection z with z _; exact absurd z (by decide)) (fun z => by injection z with z; injection z with _ z; injection z with z _; exact absurd z (by decide)) hJA) ?_
    have eN : ∀ j, j ≠ i → st_u1 A i q j = A j ∧ st_u1 fA i q1 j = fA j ∧ st_u1 dA i r1 j = dA j := fun j m => ⟨if_neg m, if_neg m, if_neg m⟩
    have eI : st_u1 A i q i = q ∧ st_u1 fA i q1 i = q1 ∧ st_u1 dA i r1 i = r1 := ⟨if_pos rfl, if_pos rfl, if_pos rfl⟩
    refine ⟨⟨_, hH'.1, fun j j1 j2 => ?_⟩, fun j j1 j2 => ?_, fun j k j1 j2 k1 k2 hz => ?_, hJA⟩
    · by_cases e : j = i
      · subst e; rw [va_up_self, eI.1]
      · rw [va_up_ne _ _ (by omega), hcj j j1 (by omega), (eN j e).1]
    · by_cases e : j = i
      · subst e
        rw [eI.1, eI.2.1, eI.2.2]
        exact ⟨hH'.2.1, jn _ q0, jn _ (up0 _ hq1), jn _ (up0 _ hr1)⟩
      · have e2 := eN j e
        obtain ⟨s1, s2⟩ := hst j j1 (by omega)
        rw [e2.1, e2.2.1, e2.2.2]
        exact ⟨⟨hH'.2.2 _ _ s1.1 (aw_ne s1.1 hcA (fun z => by cases z)), hH'.2.2 _ _ s1.2.1 (aw_ne s1.2.1 hcA (fun z => by injection z with z; injection z with _ z; injection z with z _; exact absurd z (by decide))), hH'.2.2 _ _ s1.2.2.1 (aw_ne s1.2.2.1 hcA (fun z => by injection z with z; injection z with _ z; injection z with z _; exact absurd z (by decide))), s1.2.2.2⟩, s2⟩
    · by_cases ej : j = i
      · by_cases ek : k = i
        · omega
        · exfalso
          obtain ⟨s1, s2⟩ := hst k k1 (by omega)
          rw [ej, eI.1, eI.2.1, eI.2.2, (eN k ek).1, (eN k ek).2.1, (eN k ek).2.2] at hz
          rcases hz with z | z | z
          · exact aw_nf s1.1 q0 z.symm
          · exact aw_nf (g _ _ s1.2.1) hq1 z.symm
          · exact aw_nf (g _ _ s1.2.2.1) hr1 z.symm
      · by_cases ek : k = i
        · exfalso
          obtain ⟨s1, s2⟩ := hst j j1 (by omega)
          rw [ek, eI.1, eI.2.1, eI.2.2, (eN j ej).1, (eN j ej).2.1, (eN j ej).2.2] at hz
          rcases hz with z | z | z
          · exact aw_nf s1.1 q0 z
          · exact aw_nf (g _ _ s1.2.1) hq1 z
          · exact aw_nf (g _ _ s1.2.2.1) hr1 z
        · rw [(eN j ej).1, (eN j ej).2.1, (eN j ej).2.2, (eN k ek).1, (eN k ek).2.1, (eN k ek).2.2] at hz
          exact hin j k j1 (by omega) k1 (by omega) hz
def ci_B (G : aw_G) (x aA aS aL aT aO aN rt ca : Nat) (cT : Nat → Option Nat) (i : Int) (A fA dA Ty : Int → Nat) (J H : aw_J) : Prop := ci_R G x aA aS aL aT aO aN 0 0 (fun _ => none) (va_up (fun _ => none) 0 (some rt)) cT J H ∧ ci_A G J H aA 10 A fA dA ∧ H rt = some (.inr (4, [.int (iI 0), .int (iI 0), .null, .ref ca, .null, .int (iI 0), .int (iI 0), .int (iI 0)])) ∧ H ca = some (.inl (G.2.2.1 3, 0, .inr (.inr (.inr (.inr (fun _ => none)))))) ∧ J rt = none ∧ ∀ c, 0 ≤ c → c < i → cT c.toNat = some (Ty c) ∧ H (Ty c) = some (.inr (7, [.int (iI c), .int (iI c), .int (iI 0), .ref rt, .null]))
theorem ci_A.ag {G : aw_G} {K : Nat → Nat → Bool} {w aA : Nat} {i : Int} {A fA dA : Int → Nat} {J H H' : aw_J} (h : ci_A G J H aA i A fA dA) (htg : aw_tg G) (ha : cr_ag G K w H H') (k1 : cr_kI K) (k2 : cr_kA K) : ci_A G J H' aA i A fA dA := by
  obtain ⟨⟨cA, h1, h2⟩, h3, h4⟩ := h
  exact ⟨⟨cA, ha.q htg h1 (by decide) (by decide) (k1.2.2.2 _), h2⟩, fun j j1 j2 => ⟨(h3 j j1 j2).1.ag htg ha k2, (h3 j j1 j2).2⟩, h4⟩
theorem cr_ag.k {G : aw_G} {K : Nat → Nat → Bool} {w a i n : Nat} {e0 : va_E} {H H' : aw_J} (ha : H a = some e0) (hs : cr_sh G i n e0) (hk : K i n = true) (hb : ∀ b v, H b = some v → b ≠ a → H' b = some v) : cr_ag G K w H H' := fun b v m1 m2 _ => hb b v m1 (fun e => by
  rw [e, ha] at m1
  cases m1
  have := m2 i n hs
  rw [hk] at this
  cases this)
theorem sp_Ti_3 {G : aw_G} {d : Nat} {Q : aw_O → aw_J → Prop} {J : aw_J} {kc ks : Nat} {x aA aS aL aT aO aN : Nat} {H : aw_J} {A fA dA : Int → Nat} (htg : aw_tg G) (hkc : 2 ≤ kc) (hks : 8 ≤ ks) (hJL : J aL = none) (hR : ci_R G x aA aS aL aT aO aN 0 0 (fun _ => none) (fun _ => none) (fun _ => none) J H) (hA : ci_A G J H aA 10 A fA dA) (hq : ∀ rt ca H', ci_B G x aA aS aL aT aO aN rt ca (fun _ => none) 0 A fA dA (fun _ => 0) J H' → aw_W G mT_init (d + 1) Q 109 [some (.ref x), some (.ref rt), some (.int (iI 0))] [] H' (kc - 2) (ks - 8)) : aw_W G mT_init (d + 1) Q 84 [some (.ref x), some (.int (iI 10)), none] [] H kc ks := by
  refine aw_new (kc' := kc - 1) (ks' := ks - 8) dT_init_84 nT_21 (by omega) (by omega) (fun rt q0 => ?_)
  refine aw_dup dT_init_87 rfl ?_
  refine ai_iconst dT_init_88 ?_
  refine ai_iconst dT_init_89 ?_
  refine aw_null dT_init_90 ?_
  refine ai_iconst dT_init_91 ?_
  refine aw_newQ (t := 3) (N := 0) (kc' := kc - 2) (ks' := ks - 8) dT_init_92 rfl wT_1_30 (by decide) (by decide) (by decide) (by decide) (by omega) (by omega) (fun ca q1 => ?_)
  refine aw_null dT_init_95 ?_
  refine aw_callIN5 (mc' := 0) (ms' := 0) (kc' := (kc - 2)) (ks' := (ks - 8)) dT_init_96 cT_41 (Nat.le_of_ble_eq_true rfl) (Nat.le_of_ble_eq_true rfl) (by omega) (by omega) ?_
  have nrc : rt ≠ ca := aw_nf aw_up_s q1
  have g : ∀ b v, H b = some v → aw_up H rt (.inr (4, [.int 0, .int 0, .null, .null, .null, .int 0, .int 0, .int 0])) b = some v := fun b v m => (aw_up_n (aw_nf m q0)).trans m
  refine sp_Linit (rp := none) (rf := none) ((aw_up_n nrc).trans aw_up_s) ?_
  have n1 : x ≠ rt := aw_nf hR.1 q0
  have n2 : x ≠ ca := aw_nf (g _ _ hR.1) q1
  have l1 : aL ≠ rt := aw_nf hR.2.2.1 q0
  have l2 : aL ≠ ca := aw_nf (g _ _ hR.2.2.1) q1
  first | refine aw_astore_n dT_init_99 (by decide) rfl ?_ | refine aw_astore_nQ dT_init_99 (by decide) rfl ?_ | refine aw_astore_nN dT_init_99 (by decide) rfl ?_
  first | refine aw_aload_n dT_init_100 rfl ?_ | refine aw_aload_nQ dT_init_100 rfl ?_ | refine aw_aload_nN dT_init_100 rfl ?_
  refine aw_get dT_init_101 fT_23 ((aw_up_n n1).trans ((aw_up_n n2).trans ((aw_up_n n1).trans hR.1))) rfl ?_
  refine ai_iconst dT_init_104 ?_
  first | refine aw_aload_n dT_init_105 rfl ?_ | refine aw_aload_nQ dT_init_105 rfl ?_ | refine aw_aload_nN dT_init_105 rfl ?_
  refine aw_aast dT_init_106 rfl rfl ((aw_up_n l1).trans ((aw_up_n l2).trans ((aw_up_n l1).trans hR.2.2.1))) aw_up_s (iI_in (by decide) (by decide) (by decide)) ?_
  rw [iI_cl (by decide), show (0 : Int).toNat = 0 from rfl]
  refine aw_gen (fun H' => H' aL = some (.inl (G.2.2.1 5, 41, .inr (.inr (.inr (.inr (va_up (fun _ => none) 0 (some rt))))))) ∧ H' rt = some (.inr (4, [.int (iI 0), .int (iI 0), .null, .ref ca, .null, .int (iI 0), .int (iI 0), .int (iI 0)])) ∧ H' ca = some (.inl (G.2.2.1 3, 0, .inr (.inr (.inr (.inr (fun _ => none)))))) ∧ ∀ b v, H b = some v → b ≠ aL → H' b = some v) ⟨aw_up_s, (aw_up_n (fun z => l1 z.symm)).trans aw_up_s, (aw_up_n (fun z => l2 z.symm)).trans ((aw_up_n (fun z => nrc z.symm)).trans aw_up_s), fun b v m1 m2 => (aw_up_n m2).trans ((aw_up_n (aw_nf m1 q0)).trans ((aw_up_n (aw_nf (g b v m1) q1)).trans (g b v m1)))⟩ (fun H' hh => ?_)
  refine ai_iconst dT_init_107 ?_
  refine aw_istore_n dT_init_108 (by decide) rfl ?_
  have jn : J rt = none := by
    cases e : J rt with
    | none => rfl
    | some v => rw [hR.2.2.2.2.2.2.1 rt v e (fun z => n1 z.symm)] at q0; cases q0
  refine hq rt ca H' ?_
  obtain ⟨r1, r2, r3, r4, r5, r6, r7, r8⟩ := hR
  have ag : cr_ag G (fun i n => i == 5 && n == 41) x H H' := cr_ag.k r3 (cr_shq (by decide) (by decide)) rfl hh.2.2.2
  have xn : aN ≠ x := aw_ne r6 r1 (fun z => by cases z)
  exact ⟨⟨ag.o r1 rfl, ag.q htg r2 (by decide) (by decide) rfl, hh.1, ag.q htg r4 (by decide) (by decide) rfl, ag.q htg r5 (by decide) (by decide) rfl, ag.i r6 rfl (fun _ => xn), fun b v m1 m2 => hh.2.2.2 b v (r7 b v m1 m2) (fun e => by rw [e, hJL] at m1; cases m1), r8⟩, hA.ag htg ag ⟨rfl, rfl, rfl, fun _ => rfl⟩ ⟨rfl, rfl, rfl⟩, hh.2.1, hh.2.2.1, jn, fun c c1 c2 => absurd c2 (by omega)⟩
theorem sp_Ti_4 {G : aw_G} {d : Nat} {Q : aw_O → aw_J → Prop} {J : aw_J}  {x aA aS aL aT aO aN rt ca kE kS : Nat} {A fA dA : Int → Nat} (htg : aw_tg G) (hJT : J aT = none) (hq : ∀ H cT Ty, ci_B G x aA aS aL aT aO aN rt ca cT 8 A fA dA Ty J H → aw_W G mT_init (d + 1) Q 139 [some (.ref x), some (.ref rt), some (.int (iI 8))] [] H kE kS) : ∀ i : Int, i ≤ 8 → 0 ≤ i → ∀ (H : aw_J) (cT : Nat → Option Nat) (Ty : Int → Nat) (kc ks : Nat), kE + (8 - i).toNat ≤ kc → kS + 5 * (8 - i).toNat ≤ ks → ci_B G x aA aS aL aT aO aN rt ca cT i A fA dA Ty J H → aw_W G mT_init (d + 1) Q 109 [some (.ref x), some (.ref rt), some (.int (iI i))] [] H kc ks := by
  refine il_up 8 (fun i hi ih h0 H cT Ty kc ks hkc hks hB => ?_)
  refine aw_iload_n dT_init_109 rfl ?_
  refine ai_bipush dT_init_110 (by decide +kernel) ?_
  refine ai_icmp_ge (tgt := 139) dT_init_112 (by decide) (by omega) (by omega) (fun hb112 => ?_) (fun hb112 => ?_)
  · have e9 : i = 8 := by omega
    subst e9
    exact aw_more (Nat.le_refl _) (by omega) (by omega) (hq H cT Ty hB)
  · first | refine aw_aload_n dT_init_115 rfl ?_ | refine aw_aload_nQ dT_init_115 rfl ?_ | refine aw_aload_nN dT_init_115 rfl ?_
    refine aw_get dT_init_116 fT_29 hB.1.1 rfl ?_
    refine aw_iload_n dT_init_119 rfl ?_
    refine aw_new (kc' := kc - 1) (ks' := ks - 5) dT_init_120 nT_27 (by omega) (by omega) (fun q q0 => ?_)
    refine aw_dup dT_init_123 rfl ?_
    refine aw_iload_n dT_init_124 rfl ?_
    refine aw_iload_n dT_init_125 rfl ?_
    refine ai_iconst dT_init_126 ?_
    first | refine aw_aload_n dT_init_127 rfl ?_ | refine aw_aload_nQ dT_init_127 rfl ?_ | refine aw_aload_nN dT_init_127 rfl ?_
    refine aw_null dT_init_128 ?_
    refine aw_callIN5 (mc' := 0) (ms' := 0) (kc' := (kc - 1)) (ks' := (ks - 5)) dT_init_129 cT_44 (Nat.le_of_ble_eq_true rfl) (Nat.le_of_ble_eq_true rfl) (by omega) (by omega) ?_
    refine sp_Yinit (rd := some rt) (rs := none) aw_up_s ?_
    rw [aw_uu]
    have nt : aT ≠ q := aw_nf hB.1.2.2.2.1 q0
    refine aw_aast dT_init_132 rfl rfl ((aw_up_n nt).trans hB.1.2.2.2.1) aw_up_s (iI_in (by omega) (by omega) (by omega)) ?_
    rw [iI_cl (by omega)]
    refine aw_gen (fun H' => H' aT = some (.inl (G.2.2.1 6, 120, .inr (.inr (.inr (.inr (va_up cT i.toNat (some q))))))) ∧ H' q = some (.inr (7, [.int (iI i), .int (iI i), .int (iI 0), .ref rt, .null])) ∧ ∀ b v, H b = some v → b ≠ aT → H' b = some v) ⟨aw_up_s, (aw_up_n (fun z => nt z.symm)).trans aw_up_s, fun b v m1 m2 => (aw_up_n m2).trans ((aw_up_n (aw_nf m1 q0)).trans m1)⟩ (fun H' hh => ?_)
    refine ai_iinc dT_init_133 rfl (by decide) rfl ?_
    refine aw_goto (tgt := 109) dT_init_136 (by decide) ?_
    refine ih (by omega) (by omega) H' (va_up cT i.toNat (some q)) (st_u1 Ty i q) (kc - 1) (ks - 5) (by omega) (by omega) ?_
    obtain ⟨⟨r1, r2, r3, r4, r5, r6, r7, r8⟩, hA, b1, b2, b3, b4⟩ := hB
    have ag : cr_ag G (fun i n => i == 6 && n == 120) x H H' := cr_ag.k r4 (cr_shq (by decide) (by decide)) rfl hh.2.2
    have xn : aN ≠ x := aw_ne r6 r1 (fun z => by cases z)
    refine ⟨⟨ag.o r1 rfl, ag.q htg r2 (by decide) (by decide) rfl, ag.q htg r3 (by decide) (by decide) rfl, hh.1, ag.q htg r5 (by decide) (by decide) rfl, ag.i r6 rfl (fun _ => xn), fun b v m1 m2 => hh.2.2 b v (r7 b v m1 m2) (fun e => by rw [e, hJT] at m1; cases m1), r8⟩, hA.ag htg ag ⟨rfl, rfl, rfl, fun _ => rfl⟩ ⟨rfl, rfl, rfl⟩, ag.o b1 rfl, ag.q htg b2 (by decide) (by decide) rfl, b3, fun c c1 c2 => ?_⟩
    by_cases e : c = i
    · subst e
      rw [show st_u1 Ty c q c = q from if_pos rfl]
      exact ⟨va_up_self _ _ _, hh.2.1⟩
    · rw [show st_u1 Ty i q c = Ty c from if_neg e, va_up_ne _ _ (by omega)]
      have t := b4 c c1 (by omega)
      exact ⟨t.1, ag.o t.2 rfl⟩
theorem sp_Ti_5 {G : aw_G} {d : Nat} {Q : aw_O → aw_J → Prop} {J : aw_J} {kc ks : Nat} {x aA aS aL aT aO aN rt ca : Nat} {H : aw_J} {cT : Nat → Option Nat} {A fA dA Ty : Int → Nat} (htg : aw_tg G) (hkc : 6 ≤ kc) (hks : 30 ≤ ks) (hJS : J aS = none) (hB : ci_B G x aA aS aL aT aO aN rt ca cT 8 A fA dA Ty J H) (hq : ∀ y z H', CR G x y z H' (mo_n0 8) → (∀ b v, J b = some v → b ≠ x → H' b = some v) → J (z 0 5) = none → Q (.inl none) H') : aw_W G mT_init (d + 1 + 1) Q 139 [some (.ref x), some (.ref rt), some (.int (iI 8))] [] H kc ks := by
  obtain ⟨⟨r1, r2, r3, r4, r5, r6, r7, r8⟩, hA, b1, b2, b3, b4⟩ := hB
  first | refine aw_aload_n dT_init_139 rfl ?_ | refine aw_aload_nQ dT_init_139 rfl ?_ | refine aw_aload_nN dT_init_139 rfl ?_
  refine ai_bipush dT_init_140 (by decide +kernel) ?_
  refine aw_put dT_init_142 sT_47 r1 rfl rfl (Nat.le_of_ble_eq_true rfl) ?_
  refine aw_gen (fun H' => H' x = some (.inr (8, [.ref aA, .ref aS, .int (iI 0), .ref aL, .ref aT, .int (iI 8), .ref aO, .ref aN])) ∧ ∀ b v, H b = some v → b ≠ x → H' b = some v) ⟨aw_up_s, fun b v m1 m2 => (aw_up_n m2).trans m1⟩ (fun H1 h1 => ?_)
  have rx : rt ≠ x := aw_ne b1 r1 (fun z => by cases z)
  have sx : aS ≠ x := aw_ne r2 r1 (fun z => by cases z)
  have b1' := h1.2 _ _ b1 rx
  have r2' := h1.2 _ _ r2 sx
  refine aw_new (kc' := kc - 1) (ks' := ks - 10) dT_init_145 nT_15 (by omega) (by omega) (fun sc q0 => ?_)
  refine aw_dup dT_init_148 rfl ?_
  refine aw_null dT_init_149 ?_
  refine aw_callIN1 (mc' := 5) (ms' := 20) (kc' := (kc - 6)) (ks' := (ks - 30)) dT_init_150 cT_51 (Nat.le_of_ble_eq_true rfl) (Nat.le_of_ble_eq_true rfl) (by omega) (by omega) ?_
  refine sp_Sinit (rp := none) (by omega) (by omega) aw_up_s (fun p1 q1 p2 q2 ab J1 hf hne hS hP1 hP2 hab hb => ?_)
  have g : ∀ b v, H1 b = some v → aw_up H1 sc (.inr (6, [.null, .null, .null, .null, .null, .null, .null, .null, .null, .int 0])) b = some v := fun b v h => (aw_up_n (aw_nf h q0)).trans h
  have f : ∀ b v, H1 b = some v → J1 b = some v := fun b v h => (hb b (aw_nf h q0) (aw_nf (g b v h) hf.1) (aw_nf (g b v h) hf.2.1) (aw_nf (g b v h) hf.2.2.1) (aw_nf (g b v h) hf.2.2.2.1) (aw_nf (g b v h) hf.2.2.2.2)).trans (g b v h)
  have n0 : ∀ b, aw_up H1 sc (.inr (6, [.null, .null, .null, .null, .null, .null, .null, .null, .null, .int 0])) b = none → H1 b = none := fun b h => by
    unfold aw_up at h
    split at h
    · cases h
    · exact h
  have rsc : rt ≠ sc := aw_nf b1' q0
  have xsc : x ≠ sc := aw_nf h1.1 q0
  have ssc : aS ≠ sc := aw_nf r2' q0
  have sr : aS ≠ rt := aw_ne r2 b1 (fun z => by cases z)
  refine aw_astore_n dT_init_153 (by decide) rfl ?_
  first | refine aw_aload_n dT_init_154 rfl ?_ | refine aw_aload_nQ dT_init_154 rfl ?_ | refine aw_aload_nN dT_init_154 rfl ?_
  refine aw_gets (i := 1) dT_init_155 (by decide) wT_1_183 ?_
  refine aw_put dT_init_158 sT_60 hS rfl rfl (Nat.le_of_ble_eq_true rfl) ?_
  first | refine aw_aload_n dT_init_161 rfl ?_ | refine aw_aload_nQ dT_init_161 rfl ?_ | refine aw_aload_nN dT_init_161 rfl ?_
  first | refine aw_aload_n dT_init_162 rfl ?_ | refine aw_aload_nQ dT_init_162 rfl ?_ | refine aw_aload_nN dT_init_162 rfl ?_
  refine aw_put dT_init_163 sT_63 aw_up_s rfl rfl (Nat.le_of_ble_eq_true rfl) ?_
  first | refine aw_aload_n dT_init_166 rfl ?_ | refine aw_aload_nQ dT_init_166 rfl ?_ | refine aw_aload_nN dT_init_166 rfl ?_
  first | refine aw_aload_n dT_init_167 rfl ?_ | refine aw_aload_nQ dT_init_167 rfl ?_ | refine aw_aload_nN dT_init_167 rfl ?_
  refine aw_put dT_init_168 sT_67 aw_up_s rfl rfl (Nat.le_of_ble_eq_true rfl) ?_
  first | refine aw_aload_n dT_init_171 rfl ?_ | refine aw_aload_nQ dT_init_171 rfl ?_ | refine aw_aload_nN dT_init_171 rfl ?_
  refine ai_iconst dT_init_172 ?_
  refine aw_put dT_init_173 sT_70 ((aw_up_n rsc).trans ((aw_up_n rsc).trans ((aw_up_n rsc).trans (f _ _ b1')))) rfl rfl (Nat.le_of_ble_eq_true rfl) ?_
  first | refine aw_aload_n dT_init_176 rfl ?_ | refine aw_aload_nQ dT_init_176 rfl ?_ | refine aw_aload_nN dT_init_176 rfl ?_
  refine aw_get dT_init_177 fT_17 ((aw_up_n (fun z => rx z.symm)).trans ((aw_up_n xsc).trans ((aw_up_n xsc).trans ((aw_up_n xsc).trans (f _ _ h1.1))))) rfl ?_
  refine ai_iconst dT_init_180 ?_
  first | refine aw_aload_n dT_init_181 rfl ?_ | refine aw_aload_nQ dT_init_181 rfl ?_ | refine aw_aload_nN dT_init_181 rfl ?_
  refine aw_aast dT_init_182 rfl rfl ((aw_up_n sr).trans ((aw_up_n ssc).trans ((aw_up_n ssc).trans ((aw_up_n ssc).trans (f _ _ r2'))))) ((aw_up_n (fun z => rsc z.symm)).trans aw_up_s) (iI_in (by decide) (by decide) (by decide)) ?_
  rw [iI_cl (by decide), show (0 : Int).toNat = 0 from rfl]
  first | refine aw_aload_n dT_init_183 rfl ?_ | refine aw_aload_nQ dT_init_183 rfl ?_ | refine aw_aload_nN dT_init_183 rfl ?_
  refine ai_iconst dT_init_184 ?_
  refine aw_put dT_init_185 sT_73 ((aw_up_n (fun z => sx z.symm)).trans ((aw_up_n (fun z => rx z.symm)).trans ((aw_up_n xsc).trans ((aw_up_n xsc).trans ((aw_up_n xsc).trans (f _ _ h1.1)))))) rfl rfl (Nat.le_of_ble_eq_true rfl) ?_
  refine aw_gen (fun H' => H' x = some (.inr (8, [.ref aA, .ref aS, .int (iI 1), .ref aL, .ref aT, .int (iI 8), .ref aO, .ref aN])) ∧ H' aS = some (.inl (G.2.2.1 4, 12, .inr (.inr (.inr (.inr (va_up (fun _ => none) 0 (some sc))))))) ∧ H' rt = some (.inr (4, [.int (iI 0), .int (iI 0), .null, .ref ca, .null, .int (iI 2), .int (iI 0), .int (iI 0)])) ∧ H' sc = some (.inr (6, [.null, .ref p1, .ref p2, .null, .ref (G.2.2.2.1 1), .null, .ref rt, .ref rt, .ref ab, .int (iI 0)])) ∧ ∀ b v, J1 b = some v → b ≠ x → b ≠ aS → b ≠ rt → b ≠ sc → H' b = some v) ⟨aw_up_s, (aw_up_n sx).trans aw_up_s, (aw_up_n rx).trans ((aw_up_n (fun z => sr z.symm)).trans aw_up_s), (aw_up_n (fun z => xsc z.symm)).trans ((aw_up_n (fun z => ssc z.symm)).trans ((aw_up_n (fun z => rsc z.symm)).trans aw_up_s)), fun b v m1 m2 m3 m4 m5 => (aw_up_n m2).trans ((aw_up_n m3).trans ((aw_up_n m4).trans ((aw_up_n m5).trans ((aw_up_n m5).trans ((aw_up_n m5).trans m1)))))⟩ (fun H' hh => ?_)
  refine aw_vret dT_init_188 rfl ?_
  obtain ⟨e1, e2, e3, e4, e5⟩ := hh
  have k : ∀ b v, H b = some v → b ≠ x → b ≠ aS → b ≠ rt → H' b = some v := fun b v m1 m2 m3 m4 => e5 b v (f b v (h1.2 b v m1 m2)) m2 m3 m4 (aw_nf (h1.2 b v m1 m2) q0)
  have n0' : ∀ b, H1 b = none → ∀ v, J1 b = some v → b ≠ sc → H' b = some v := fun b m v m1 m2 => e5 b v m1 (fun z => aw_nf h1.1 m z.symm) (fun z => aw_nf r2' m z.symm) (fun z => aw_nf b1' m z.symm) m2
  have s1 : p1 ≠ sc := aw_ne hP1.1 hS (fun z => by cases z)
  have s2 : q1 ≠ sc := aw_ne hP1.2.1 hS (fun z => by cases z)
  have s3 : p2 ≠ sc := aw_ne hP2.1 hS (fun z => by cases z)
  have s4 : q2 ≠ sc := aw_ne hP2.2.1 hS (fun z => by cases z)
  have s5 : ab ≠ sc := aw_ne hab hS (fun z => by cases z)
  obtain ⟨⟨cA, a1, a2⟩, a3, a4, a5⟩ := hA
  have D : ∀ {t n m k : Nat} {c c' : Nat → Option Nat}, n ≠ m → (.inl (G.2.2.1 t, n, .inr (.inr (.inr (.inr c)))) : va_E) ≠ .inl (G.2.2.1 k, m, .inr (.inr (.inr (.inr c')))) := fun hn z => by injection z with z; injection z with _ z; injection z with z _; exact hn z
  have xA := aw_ne a1 r1 (fun z => by cases z)
  have C := ci_CR (G := G) (x := x) (H := H') (aA := aA) (aS := aS) (aL := aL) (aT := aT) (aO := aO) (aN := aN) (sc := sc) (p1 := p1) (q1 := q1) (p2 := p2) (q2 := q2) (ab := ab) (rt := rt) (ca := ca) (A := A) (fA := fA) (dA := dA) (Ty := Ty) e1 (k _ _ a1 xA (aw_ne a1 r2 (D (by decide))) (aw_ne a1 b1 (fun z => by cases z))) a2 (fun j j1 j2 => by
    have s := (a3 j j1 j2).1
    exact ⟨k _ _ s.1 (aw_ne s.1 r1 (fun z => by cases z)) (aw_ne s.1 r2 (fun z => by cases z)) (aw_ne s.1 b1 (fun z => by cases z)), k _ _ s.2.1 (aw_ne s.2.1 r1 (fun z => by cases z)) (aw_ne s.2.1 r2 (D (by decide))) (aw_ne s.2.1 b1 (fun z => by cases z)), k _ _ s.2.2.1 (aw_ne s.2.2.1 r1 (fun z => by cases z)) (aw_ne s.2.2.1 r2 (D (by decide))) (aw_ne s.2.2.1 b1 (fun z => by cases z)), s.2.2.2⟩) a4 (k _ _ r3 (aw_ne r3 r1 (fun z => by cases z)) (aw_ne r3 r2 (D (by decide))) (aw_ne r3 b1 (fun z => by cases z))) ⟨va_up_self _ _ _, fun j hj => va_up_ne _ _ hj⟩ e3 (k _ _ b2 (aw_ne b2 r1 (fun z => by cases z)) (aw_ne b2 r2 (D (by decide))) (aw_ne b2 b1 (fun z => by cases z))) e2 (va_up_self _ _ _) e4 ⟨n0' _ (n0 _ hf.1) _ hP1.1 s1, n0' _ (n0 _ hf.2.1) _ hP1.2.1 s2, hP1.2.2⟩ ⟨n0' _ (n0 _ hf.2.2.1) _ hP2.1 s3, n0' _ (n0 _ hf.2.2.2.1) _ hP2.2.1 s4, hP2.2.2⟩ hne (n0' _ (n0 _ hf.2.2.2.2) _ hab s5) (k _ _ r4 (aw_ne r4 r1 (fun z => by cases z)) (aw_ne r4 r2 (D (by decide))) (aw_ne r4 b1 (fun z => by cases z))) (fun c c1 c2 => by
    have t := b4 c c1 c2
    exact ⟨t.1, k _ _ t.2 (aw_ne t.2 r1 (fun z => by cases z)) (aw_ne t.2 r2 (fun z => by cases z)) (aw_ne t.2 b1 (fun z => by cases z))⟩) (k _ _ r5 (aw_ne r5 r1 (fun z => by cases z)) (aw_ne r5 r2 (D (by decide))) (aw_ne r5 b1 (fun z => by cases z))) (k _ _ r6 (aw_ne r6 r1 (fun z => by cases z)) (aw_ne r6 r2 (fun z => by injection z with z; injection z with _ z; injection z with z _; exact absurd z (by decide))) (aw_ne r6 b1 (fun z => by cases z)))
  exact hq _ _ H' C (fun b v m1 m2 => k b v (r7 b v m1 m2) m2 (fun e => by rw [e, hJS] at m1; cases m1) (fun e => by rw [e, b3] at m1; cases m1)) r8
theorem sp_Tinit {G : aw_G} {d : Nat} {Q : aw_O → aw_J → Prop} {J : aw_J} {kc ks : Nat} {x : Nat} (hkc : 60 ≤ kc) (hks : 500 ≤ ks) (hJ : J x = some (.inr (8, [.null, .null, .int 0, .null, .null, .int 0, .null, .null]))) (hq : ∀ y z H', CR G x y z H' (mo_n0 8) → (∀ b v, J b = some v → b ≠ x → H' b = some v) → J (z 0 5) = none → Q (.inl none) H') : aw_W G mT_init (d + 1 + 1) Q 0 [some (.ref x), none, none] [] J kc ks := by
  refine aw_tags (fun htg => ?_)
  refine sp_Ti_1 (by omega) (by omega) hJ (fun aA aS aL aT aO aN H hR hAr hn => ?_)
  refine ai_iconst dT_init_57 ?_
  refine aw_istore_n dT_init_58 (by decide) rfl ?_
  refine sp_Ti_2 (kE := 20) (kS := 100) htg ⟨_, hJ⟩ (fun H A fA dA hR hA => ?_) 0 (by decide) (by decide) H (fun _ => 0) (fun _ => 0) (fun _ => 0) _ _ (by have : ((10 : Int) - 0).toNat = 10 := rfl; omega) (by have : ((10 : Int) - 0).toNat = 10 := rfl; omega) hR ⟨⟨_, hAr, fun j j1 j2 => absurd j2 (by omega)⟩, fun j j1 j2 => absurd j2 (by omega), fun j k j1 j2 => absurd j2 (by omega), hn.1⟩
  refine sp_Ti_3 htg (by decide) (by decide) hn.2.2.1 hR hA (fun rt ca H hB => ?_)
  refine sp_Ti_4 (kE := 6) (kS := 30) htg hn.2.2.2 (fun H cT Ty hB => ?_) 0 (by decide) (by decide) H _ _ _ _ (by decide) (by decide) hB
  exact sp_Ti_5 htg (by decide) (by decide) hn.2.1 hB hq
end ST29
