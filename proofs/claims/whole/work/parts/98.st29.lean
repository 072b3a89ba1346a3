/-! the constructor of ScopeTree -/
section ST29
theorem aw_gen {G : aw_G} {d : Nat} {Q : aw_O → aw_J → Prop} {kc ks pc : Nat} {M : aw_M} {L : List (Option Value)} {st : List Value} {H : aw_J} (P : aw_J → Prop) (hP : P H) (k : ∀ H, P H → aw_W G M d Q pc L st H kc ks) : aw_W G M d Q pc L st H kc ks := k H hP
def ci_R (G : aw_G) (x aA aS aL aT aO aN : Nat) (nS nT : Int) (cS cL cT : Nat → Option Nat) (J H : aw_J) : Prop := st_T H x aA aS aL aT aO aN nS nT ∧ H aS = some (.inl (G.2.2.1 4, 12, .inr (.inr (.inr (.inr cS))))) ∧ H aL = some (.inl (G.2.2.1 5, 41, .inr (.inr (.inr (.inr cL))))) ∧ H aT = some (.inl (G.2.2.1 6, 120, .inr (.inr (.inr (.inr cT))))) ∧ H aO = some (.inl (G.2.2.1 5, 8, .inr (.inr (.inr (.inr (fun _ => none)))))) ∧ H aN = some (.inl (G.2.2.1 0, 8, .inl (fun _ => iI 0))) ∧ (∀ b v, J b = some v → b ≠ x → H b = some v) ∧ J aN = none
theorem ci_R.mv {G : aw_G} {x aA aS aL aT aO aN a : Nat} {nS nT : Int} {cS cL cT : Nat → Option Nat} {J H H' : aw_J} {e : va_E} (h : ci_R G x aA aS aL aT aO aN nS nT cS cL cT J H) (ha : H a = some e) (hb : ∀ b v, H b = some v → b ≠ a → H' b = some v) (n1 : e ≠ .inr (8, [.ref aA, .ref aS, .int (iI nS), .ref aL, .ref aT, .int (iI nT), .ref aO, .ref aN])) (n2 : e ≠ .inl (G.2.2.1 4, 12, .inr (.inr (.inr (.inr cS))))) (n3 : e ≠ .inl (G.2.2.1 5, 41, .inr (.inr (.inr (.inr cL))))) (n4 : e ≠ .inl (G.2.2.1 6, 120, .inr (.inr (.inr (.inr cT))))) (n5 : e ≠ .inl (G.2.2.1 5, 8, .inr (.inr (.inr (.inr (fun _ => none)))))) (n6 : e ≠ .inl (G.2.2.1 0, 8, .inl (fun _ => iI 0))) (hja : J a = none) : ci_R G x aA aS aL aT aO aN nS nT cS cL cT J H' := by
  obtain ⟨h1, h2, h3, h4, h5, h6, h7, h8⟩ := h
  exact ⟨hb _ _ h1 (aw_ne h1 ha (fun z => n1 z.symm)), hb _ _ h2 (aw_ne h2 ha (fun z => n2 z.symm)), hb _ _ h3 (aw_ne h3 ha (fun z => n3 z.symm)), hb _ _ h4 (aw_ne h4 ha (fun z => n4 z.symm)), hb _ _ h5 (aw_ne h5 ha (fun z => n5 z.symm)), hb _ _ h6 (aw_ne h6 ha (fun z => n6 z.symm)), fun b v q1 q2 => hb _ _ (h7 b v q1 q2) (fun z => by rw [z, hja] at q1; cases q1), h8⟩
theorem sp_Ti_1 {G : aw_G} {d : Nat} {Q : aw_O → aw_J → Prop} {J : aw_J} {kc ks : Nat} {x : Nat} (hkc : 6 ≤ kc) (hks : 199 ≤ ks) (hJ : J x = some (.inr (8, [.null, .null, .int 0, .null, .null, .int 0, .null, .null]))) (hq : ∀ aA aS aL aT aO aN H, ci_R G x aA aS aL aT aO aN 0 0 (fun _ => none) (fun _ => none) (fun _ => none) J H → H aA = some (.inl (G.2.2.1 3, 10, .inr (.inr (.inr (.inr (fun _ => none)))))) → J aA = none → aw_W G mT_init (d + 1) Q 57 [some (.ref x), none, none] [] H (kc - 6) (ks - 199)) : aw_W G mT_init (d + 1) Q 0 [some (.ref x), none, none] [] J kc ks := by
  first | refine aw_aload_n dT_init_0 rfl ?_ | refine aw_aload_nQ dT_init_0 rfl ?_ | refine aw_aload_nN dT_init_0 rfl ?_
  refine aw_oinit dT_init_1 wT_1_27 wOI wOC (Nat.le_of_ble_eq_true rfl) ?_
  first | refine aw_aload_n dT_init_4 rfl ?_ | refine aw_aload_nQ dT_init_4 rfl ?_ | refine aw_aload_nN dT_init_4 rfl ?_
  refine ai_bipush dT_init_5 (by decide +kernel) ?_
  refine aw_newQ (t := 3) (N := 10) (kc' := kc - 1) (ks' := ks - 10) dT_init_7 rfl wT_1_30 (by decide) (by decide) (by decide) (by decide) (by omega) (by omega) (fun aA f0 => ?_)
  refine aw_putF dT_init_10 sT_11 rfl ((aw_up_n (aw_nf hJ f0)).trans hJ) rfl rfl (Nat.le_of_ble_eq_true rfl) ?_
  refine aw_gen (fun H => H x = some (.inr (8, [.ref aA, .null, .int 0, .null, .null, .int 0, .null, .null])) ∧ H aA = some (.inl (G.2.2.1 3, 10, .inr (.inr (.inr (.inr (fun _ => none)))))) ∧ ∀ b v, J b = some v → b ≠ x → H b = some v) ⟨aw_up_s, (aw_up_n (fun z => aw_nf hJ f0 z.symm)).trans aw_up_s, fun b v q1 q2 => (aw_up_n q2).trans ((aw_up_n (aw_nf q1 f0)).trans q1)⟩ (fun H0 g0 => ?_)
  first | refine aw_aload_n dT_init_13 rfl ?_ | refine aw_aload_nQ dT_init_13 rfl ?_ | refine aw_aload_nN dT_init_13 rfl ?_
  refine ai_bipush dT_init_14 (by decide +kernel) ?_
  refine aw_newQ (t := 4) (N := 12) (kc' := kc - 2) (ks' := ks - 22) dT_init_16 rfl wT_1_32 (by decide) (by decide) (by decide) (by decide) (by omega) (by omega) (fun aS f1 => ?_)
  refine aw_putF dT_init_19 sT_17 rfl ((aw_up_n (aw_nf g0.1 f1)).trans g0.1) rfl rfl (Nat.le_of_ble_eq_true rfl) ?_
  refine aw_gen (fun H => H x = some (.inr (8, [.ref aA, .ref aS, .int 0, .null, .null, .int 0, .null, .null])) ∧ H aA = some (.inl (G.2.2.1 3, 10, .inr (.inr (.inr (.inr (fun _ => none)))))) ∧ H aS = some (.inl (G.2.2.1 4, 12, .inr (.inr (.inr (.inr (fun _ => none)))))) ∧ ∀ b v, J b = some v → b ≠ x → H b = some v) ⟨aw_up_s, (aw_up_n (aw_ne g0.2.1 g0.1 (fun z => by cases z))).trans ((aw_up_n (aw_nf g0.2.1 f1)).trans g0.2.1), (aw_up_n (fun z => aw_nf g0.1 f1 z.symm)).trans aw_up_s, fun b v q1 q2 => (aw_up_n q2).trans ((aw_up_n (aw_nf (g0.2.2 b v q1 q2) f1)).trans (g0.2.2 b v q1 q2))⟩ (fun H1 g1 => ?_)
  first | refine aw_aload_n dT_init_22 rfl ?_ | refine aw_aload_nQ dT_init_22 rfl ?_ | refine aw_aload_nN dT_init_22 rfl ?_
  refine ai_bipush dT_init_23 (by decide +kernel) ?_
  refine aw_newQ (t := 5) (N := 41) (kc' := kc - 3) (ks' := ks - 63) dT_init_25 rfl wT_1_34 (by decide) (by decide) (by decide) (by decide) (by omega) (by omega) (fun aL f2 => ?_)
  refine aw_putF dT_init_28 sT_23 rfl ((aw_up_n (aw_nf g1.1 f2)).trans g1.1) rfl rfl (Nat.le_of_ble_eq_true rfl) ?_
  refine aw_gen (fun H => H x = some (.inr (8, [.ref aA, .ref aS, .int 0, .ref aL, .null, .int 0, .null, .null])) ∧ H aA = some (.inl (G.2.2.1 3, 10, .inr (.inr (.inr (.inr (fun _ => none)))))) ∧ H aS = some (.inl (G.2.2.1 4, 12, .inr (.inr (.inr (.inr (fun _ => none)))))) ∧ H aL = some (.inl (G.2.2.1 5, 41, .inr (.inr (.inr (.inr (fun _ => none)))))) ∧ ∀ b v, J b = some v → b ≠ x → H b = some v) ⟨aw_up_s, (aw_up_n (aw_ne g1.2.1 g1.1 (fun z => by cases z))).trans ((aw_up_n (aw_nf g1.2.1 f2)).trans g1.2.1), (aw_up_n (aw_ne g1.2.2.1 g1.1 (fun z => by cases z))).trans ((aw_up_n (aw_nf g1.2.2.1 f2)).trans g1.2.2.1), (aw_up_n (fun z => aw_nf g1.1 f2 z.symm)).trans aw_up_s, fun b v q1 q2 => (aw_up_n q2).trans ((aw_up_n (aw_nf (g1.2.2.2 b v q1 q2) f2)).trans (g1.2.2.2 b v q1 q2))⟩ (fun H2 g2 => ?_)
  first | refine aw_aload_n dT_init_31 rfl ?_ | refine aw_aload_nQ dT_init_31 rfl ?_ | refine aw_aload_nN dT_init_31 rfl ?_
  refine ai_bipush dT_init_32 (by decide +kernel) ?_
  refine aw_newQ (t := 6) (N := 120) (kc' := kc - 4) (ks' := ks - 183) dT_init_34 rfl wT_1_36 (by decide) (by decide) (by decide) (by decide) (by omega) (by omega) (fun aT f3 => ?_)
  refine aw_putF dT_init_37 sT_29 rfl ((aw_up_n (aw_nf g2.1 f3)).trans g2.1) rfl rfl (Nat.le_of_ble_eq_true rfl) ?_
  refine aw_gen (fun H => H x = some (.inr (8, [.ref aA, .ref aS, .int 0, .ref aL, .ref aT, .int 0, .null, .null])) ∧ H aA = some (.inl (G.2.2.1 3, 10, .inr (.inr (.inr (.inr (fun _ => none)))))) ∧ H aS = some (.inl (G.2.2.1 4, 12, .inr (.inr (.inr (.inr (fun _ => none)))))) ∧ H aL = some (.inl (G.2.2.1 5, 41, .inr (.inr (.inr (.inr (fun _ => none)))))) ∧ H aT = some (.inl (G.2.2.1 6, 120, .inr (.inr (.inr (.inr (fun _ => none)))))) ∧ ∀ b v, J b = some v → b ≠ x → H b = some v) ⟨aw_up_s, (aw_up_n (aw_ne g2.2.1 g2.1 (fun z => by cases z))).trans ((aw_up_n (aw_nf g2.2.1 f3)).trans g2.2.1), (aw_up_n (aw_ne g2.2.2.1 g2.1 (fun z => by cases z))).trans ((aw_up_n (aw_nf g2.2.2.1 f3)).trans g2.2.2.1), (aw_up_n (aw_ne g2.2.2.2.1 g2.1 (fun z => by cases z))).trans ((aw_up_n (aw_nf g2.2.2.2.1 f3)).trans g2.2.2.2.1), (aw_up_n (fun z => aw_nf g2.1 f3 z.symm)).trans aw_up_s, fun b v q1 q2 => (aw_up_n q2).trans ((aw_up_n (aw_nf (g2.2.2.2.2 b v q1 q2) f3)).trans (g2.2.2.2.2 b v q1 q2))⟩ (fun H3 g3 => ?_)
  first | refine aw_aload_n dT_init_40 rfl ?_ | refine aw_aload_nQ dT_init_40 rfl ?_ | refine aw_aload_nN dT_init_40 rfl ?_
  refine ai_bipush dT_init_41 (by decide +kernel) ?_
  refine aw_newQ (t := 5) (N := 8) (kc' := kc - 5) (ks' := ks - 191) dT_init_43 rfl wT_1_34 (by decide) (by decide) (by decide) (by decide) (by omega) (by omega) (fun aO f4 => ?_)
  refine aw_putF dT_init_46 sT_33 rfl ((aw_up_n (aw_nf g3.1 f4)).trans g3.1) rfl rfl (Nat.le_of_ble_eq_true rfl) ?_
  refine aw_gen (fun H => H x = some (.inr (8, [.ref aA, .ref aS, .int 0, .ref aL, .ref aT, .int 0, .ref aO, .null])) ∧ H aA = some (.inl (G.2.2.1 3, 10, .inr (.inr (.inr (.inr (fun _ => none)))))) ∧ H aS = some (.inl (G.2.2.1 4, 12, .inr (.inr (.inr (.inr (fun _ => none)))))) ∧ H aL = some (.inl (G.2.2.1 5, 41, .inr (.inr (.inr (.inr (fun _ => none)))))) ∧ H aT = some (.inl (G.2.2.1 6, 120, .inr (.inr (.inr (.inr (fun _ => none)))))) ∧ H aO = some (.inl (G.2.2.1 5, 8, .inr (.inr (.inr (.inr (fun _ => none)))))) ∧ ∀ b v, J b = some v → b ≠ x → H b = some v) ⟨aw_up_s, (aw_up_n (aw_ne g3.2.1 g3.1 (fun z => by cases z))).trans ((aw_up_n (aw_nf g3.2.1 f4)).trans g3.2.1), (aw_up_n (aw_ne g3.2.2.1 g3.1 (fun z => by cases z))).trans ((aw_up_n (aw_nf g3.2.2.1 f4)).trans g3.2.2.1), (aw_up_n (aw_ne g3.2.2.2.1 g3.1 (fun z => by cases z))).trans ((aw_up_n (aw_nf g3.2.2.2.1 f4)).trans g3.2.2.2.1), (aw_up_n (aw_ne g3.2.2.2.2.1 g3.1 (fun z => by cases z))).trans ((aw_up_n (aw_nf g3.2.2.2.2.1 f4)).trans g3.2.2.2.2.1), (aw_up_n (fun z => aw_nf g3.1 f4 z.symm)).trans aw_up_s, fun b v q1 q2 => (aw_up_n q2).trans ((aw_up_n (aw_nf (g3.2.2.2.2.2 b v q1 q2) f4)).trans (g3.2.2.2.2.2 b v q1 q2))⟩ (fun H4 g4 => ?_)
  first | refine aw_aload_n dT_init_49 rfl ?_ | refine aw_aload_nQ dT_init_49 rfl ?_ | refine aw_aload_nN dT_init_49 rfl ?_
  refine ai_bipush dT_init_50 (by decide +kernel) ?_
  refine aw_newI (N := 8) (kc' := kc - 6) (ks' := ks - 199) dT_init_52 wP_I (by decide) (by decide) (by decide) (by omega) (by omega) (fun aN f5 => ?_)
  refine aw_putF dT_init_54 sT_36 rfl ((aw_up_n (aw_nf g4.1 f5)).trans g4.1) rfl rfl (Nat.le_of_ble_eq_true rfl) ?_
  refine aw_gen (fun H => H x = some (.inr (8, [.ref aA, .ref aS, .int 0, .ref aL, .ref aT, .int 0, .ref aO, .ref aN])) ∧ H aA = some (.inl (G.2.2.1 3, 10, .inr (.inr (.inr (.inr (fun _ => none)))))) ∧ H aS = some (.inl (G.2.2.1 4, 12, .inr (.inr (.inr (.inr (fun _ => none)))))) ∧ H aL = some (.inl (G.2.2.1 5, 41, .inr (.inr (.inr (.inr (fun _ => none)))))) ∧ H aT = some (.inl (G.2.2.1 6, 120, .inr (.inr (.inr (.inr (fun _ => none)))))) ∧ H aO = some (.inl (G.2.2.1 5, 8, .inr (.inr (.inr (.inr (fun _ => none)))))) ∧ H aN = some (.inl (G.2.2.1 0, 8, .inl (fun _ => 0))) ∧ ∀ b v, J b = some v → b ≠ x → H b = some v) ⟨aw_up_s, (aw_up_n (aw_ne g4.2.1 g4.1 (fun z => by cases z))).trans ((aw_up_n (aw_nf g4.2.1 f5)).trans g4.2.1), (aw_up_n (aw_ne g4.2.2.1 g4.1 (fun z => by cases z))).trans ((aw_up_n (aw_nf g4.2.2.1 f5)).trans g4.2.2.1), (aw_up_n (aw_ne g4.2.2.2.1 g4.1 (fun z => by cases z))).trans ((aw_up_n (aw_nf g4.2.2.2.1 f5)).trans g4.2.2.2.1), (aw_up_n (aw_ne g4.2.2.2.2.1 g4.1 (fun z => by cases z))).trans ((aw_up_n (aw_nf g4.2.2.2.2.1 f5)).trans g4.2.2.2.2.1), (aw_up_n (aw_ne g4.2.2.2.2.2.1 g4.1 (fun z => by cases z))).trans ((aw_up_n (aw_nf g4.2.2.2.2.2.1 f5)).trans g4.2.2.2.2.2.1), (aw_up_n (fun z => aw_nf g4.1 f5 z.symm)).trans aw_up_s, fun b v q1 q2 => (aw_up_n q2).trans ((aw_up_n (aw_nf (g4.2.2.2.2.2.2 b v q1 q2) f5)).trans (g4.2.2.2.2.2.2 b v q1 q2))⟩ (fun H5 g5 => ?_)
  obtain ⟨k1, k2, k3, k4, k5, k6, k7, k8⟩ := g5
  have jn : ∀ b, (∀ e, H4 b = some e → False) → b ≠ x → J b = none := fun b hb hx => by
    cases e : J b with
    | none => rfl
    | some v => exact (hb v (g4.2.2.2.2.2.2 b v e hx)).elim
  refine hq aA aS aL aT aO aN H5 ⟨k1, k3, k4, k5, k6, k7, k8, ?_⟩ k2 ?_
  · exact jn aN (fun e z => by rw [f5] at z; cases z) (fun z => aw_nf g4.1 f5 z.symm)
  · exact f0
def ci_A (G : aw_G) (J H : aw_J) (aA : Nat) (i : Int) (A fA dA : Int → Nat) : Prop := (∃ cA, H aA = some (.inl (G.2.2.1 3, 10, .inr (.inr (.inr (.inr cA))))) ∧ ∀ j, 0 ≤ j → j < i → cA j.toNat = some (A j)) ∧ (∀ j, 0 ≤ j → j < i → st_A G H (A j) (fA j) (dA j) (fun _ => none) (fun _ => none) 0 0 ∧ J (A j) = none ∧ J (fA j) = none ∧ J (dA j) = none) ∧ (∀ j k, 0 ≤ j → j < i → 0 ≤ k → k < i → (A j = A k ∨ fA j = fA k ∨ dA j = dA k) → j = k) ∧ J aA = none
theorem sp_Ti_2 {G : aw_G} {d : Nat} {Q : aw_O → aw_J → Prop} {J : aw_J}  {x aA aS aL aT aO aN kE kS : Nat} (htg : aw_tg G) (hJx : ∃ e, J x = some e) (hq : ∀ H A fA dA, ci_R G x aA aS aL aT aO aN 0 0 (fun _ => none) (fun _ => none) (fun _ => none) J H → ci_A G J H aA 10 A fA dA → aw_W G mT_init (d + 1) Q 84 [some (.ref x), some (.int (iI 10)), none] [] H kE kS) : ∀ i : Int, i ≤ 10 → 0 ≤ i → ∀ (H : aw_J) (A fA dA : Int → Nat) (kc ks : Nat), kE + 3 * (10 - i).toNat ≤ kc → kS + 16 * (10 - i).toNat ≤ ks → ci_R G x aA aS aL aT aO aN 0 0 (fun _ => none) (fun _ => none) (fun _ => none) J H → ci_A G J H aA i A fA dA → aw_W G mT_init (d + 1) Q 59 [some (.ref x), some (.int (iI i)), none] [] H kc ks := by
  refine il_up 10 (fun i hi ih h0 H A fA dA kc ks hkc hks hR hA => ?_)
  obtain ⟨⟨cA, hcA, hcj⟩, hst, hin, hJA⟩ := hA
  refine aw_iload_n dT_init_59 rfl ?_
  refine ai_bipush dT_init_60 (by decide +kernel) ?_
  refine ai_icmp_ge (tgt := 84) dT_init_62 (by decide) (by omega) (by omega) (fun hb62 => ?_) (fun hb62 => ?_)
  · have e9 : i = 10 := by omega
    subst e9
    exact aw_more (Nat.le_refl _) (by omega) (by omega) (hq H A fA dA hR ⟨⟨cA, hcA, hcj⟩, hst, hin, hJA⟩)
  · first | refine aw_aload_n dT_init_65 rfl ?_ | refine aw_aload_nQ dT_init_65 rfl ?_ | refine aw_aload_nN dT_init_65 rfl ?_
    refine aw_get dT_init_66 fT_11 hR.1 rfl ?_
    refine aw_iload_n dT_init_69 rfl ?_
    refine aw_new (kc' := kc - 1) (ks' := ks - 4) dT_init_70 nT_9 (by omega) (by omega) (fun q q0 => ?_)
    refine aw_dup dT_init_73 rfl ?_
    refine aw_callIN0 (mc' := 2) (ms' := 12) (kc' := (kc - 3)) (ks' := (ks - 16)) dT_init_74 cT_40 (Nat.le_of_ble_eq_true rfl) (Nat.le_of_ble_eq_true rfl) (by omega) (by omega) ?_
    refine sp_Ainit (by omega) (by omega) aw_up_s (fun q1 r1 hq1 hr1 nqr => ?_)
    have g : ∀ b v, H b = some v → aw_up H q (.inr (0, [.null, .int 0, .null, .int 0])) b = some v := fun b v m => (aw_up_n (aw_nf m q0)).trans m
    have na0 : aA ≠ q := aw_nf hcA q0
    have na1 : aA ≠ q1 := aw_nf (g _ _ hcA) hq1
    have na2 : aA ≠ r1 := aw_nf (g _ _ hcA) hr1
    have nq1 : q ≠ q1 := aw_nf aw_up_s hq1
    have nr1 : q ≠ r1 := aw_nf aw_up_s hr1
    have up0 : ∀ b, aw_up H q (.inr (0, [.null, .int 0, .null, .int 0])) b = none → H b = none := fun b m => by
      unfold aw_up at m
      split at m
      · cases m
      · exact m
    have jn : ∀ b, H b = none → J b = none := fun b m => by
      cases e : J b with
      | none => rfl
      | some v =>
        by_cases bx : b = x
        · rw [bx, hR.1] at m; cases m
        · rw [hR.2.2.2.2.2.2.1 b v e bx] at m; cases m
    refine aw_aast dT_init_77 rfl rfl ((aw_up_n na0).trans ((aw_up_n na2).trans ((aw_up_n na1).trans ((aw_up_n na0).trans hcA)))) aw_up_s (iI_in (by omega) (by omega) (by omega)) ?_
    rw [iI_cl (by omega)]
    refine aw_gen (fun H' => H' aA = some (.inl (G.2.2.1 3, 10, .inr (.inr (.inr (.inr (va_up cA i.toNat (some q))))))) ∧ st_A G H' q q1 r1 (fun _ => none) (fun _ => none) 0 0 ∧ ∀ b v, H b = some v → b ≠ aA → H' b = some v) ⟨aw_up_s, ⟨(aw_up_n (fun z => na0 z.symm)).trans aw_up_s, (aw_up_n (fun z => na1 z.symm)).trans ((aw_up_n (fun z => nq1 z.symm)).trans ((aw_up_n nqr).trans aw_up_s)), (aw_up_n (fun z => na2 z.symm)).trans ((aw_up_n (fun z => nr1 z.symm)).trans aw_up_s), by decide, by decide⟩, fun b v m1 m2 => (aw_up_n m2).trans ((aw_up_n (aw_nf m1 q0)).trans ((aw_up_n (aw_nf (g b v m1) hr1)).trans ((aw_up_n (aw_nf (g b v m1) hq1)).trans (g b v m1))))⟩ (fun H' hH' => ?_)
    refine ai_iinc dT_init_78 rfl (by decide) rfl ?_
    refine aw_goto (tgt := 59) dT_init_81 (by decide) ?_
    refine ih (by omega) (by omega) H' (st_u1 A i q) (st_u1 fA i q1) (st_u1 dA i r1) (kc - 3) (ks - 16) (by omega) (by omega) (hR.mv hcA hH'.2.2 (fun z => by cases z) (fun z => by injection z with z; injection z with _ z; injection z with z _; exact absurd z (by decide)) (fun z => by injection z with z; injection z with _ z; injection z with z _; exact absurd z (by decide)) (fun z => by injection z with z; injection z with _ z; injection z with z _; exact absurd z (by decide)) (fun z => by injection z with z; injection z with _ z; injection z with z _; exact absurd z (by decide)) (fun z => by injection z with z; injection z with _ z; injection z with z _; exact absurd z (by decide)) hJA) ?_
    have eN : ∀ j, j ≠ i → st_u1 A i q j = A j ∧ st_u1 fA i q1 j = fA j ∧ st_u1 dA i r1 j = dA j := fun j m => ⟨if_neg m, if_neg m, if_neg m⟩
    have eI : st_u1 A i q i = q ∧ st_u1 fA i q1 i = q1 ∧ st_u1 dA i r1 i = r1 := ⟨if_pos rfl, if_pos rfl, if_pos rfl⟩
    refine ⟨⟨_, hH'.1, fun j j1 j2 => ?_⟩, fun j j1 j2 => ?_, fun j k j1 j2 k1 k2 hz => ?_, hJA⟩
    · by_cases e : j = i
      · subst e; rw [va_up_self, eI.1]
      · rw [va_up_ne _ _ (by omega), hcj j j1 (by omega), (eN j e).1]
    · by_cases e : j = i
      · subst e
        rw [eI.1, eI.2.1, eI.2.2]
        exact ⟨hH'.2.1, jn _ q0, jn _ (up0 _ hq1), jn _ (up0 _ hr1)⟩
      · have e2 := eN j e
        obtain ⟨s1, s2⟩ := hst j j1 (by omega)
        rw [e2.1, e2.2.1, e2.2.2]
        have t1 : ∀ {t n c m}, (.inl (t, n, .inr (.inr (.inr (.inr c)))) : va_E) ≠ .inl (G.2.2.1 3, 10, .inr (.inr (.inr (.inr m)))) ∨ t = t := fun {_ _ _ _} => Or.inr rfl
        exact ⟨⟨hH'.2.2 _ _ s1.1 (aw_ne s1.1 hcA (fun z => by cases z)), hH'.2.2 _ _ s1.2.1 (aw_ne s1.2.1 hcA (fun z => by injection z with z; injection z with _ z; injection z with z _; exact absurd z (by decide))), hH'.2.2 _ _ s1.2.2.1 (aw_ne s1.2.2.1 hcA (fun z => by injection z with z; injection z with _ z; injection z with z _; exact absurd z (by decide))), s1.2.2.2⟩, s2⟩
    · by_cases ej : j = i
      · by_cases ek : k = i
        · omega
        · exfalso
          obtain ⟨s1, s2⟩ := hst k k1 (by omega)
          rw [ej, eI.1, eI.2.1, eI.2.2, (eN k ek).1, (eN k ek).2.1, (eN k ek).2.2] at hz
          rcases hz with z | z | z
          · exact aw_nf s1.1 q0 z.symm
          · exact aw_nf (g _ _ s1.2.1) hq1 z.symm
          · exact aw_nf (g _ _ s1.2.2.1) hr1 z.symm
      · by_cases ek : k = i
        · exfalso
          obtain ⟨s1, s2⟩ := hst j j1 (by omega)
          rw [ek, eI.1, eI.2.1, eI.2.2, (eN j ej).1, (eN j ej).2.1, (eN j ej).2.2] at hz
          rcases hz with z | z | z
          · exact aw_nf s1.1 q0 z
          · exact aw_nf (g _ _ s1.2.1) hq1 z
          · exact aw_nf (g _ _ s1.2.2.1) hr1 z
        · rw [(eN j ej).1, (eN j ej).2.1, (eN j ej).2.2, (eN k ek).1, (eN k ek).2.1, (eN k ek).2.2] at hz
          exact hin j k j1 (by omega) k1 (by omega) hz
end ST29
