/-! the class: the constructor of scopes -/
section ST10
variable {G : aw_G} {d : Nat} {Q : aw_O → aw_J → Prop} {J : aw_J} {kc ks : Nat}
theorem st_z4 : (fun _ => 0 : Nat → Int32) = fun j : Nat => iI ((fun _ => 0 : Int → Int) (j : Int)) := by
  funext j
  exact iI_z0
theorem sp_Sinit {a : Nat} {rp : Option Nat} (hkc : 5 ≤ kc) (hks : 20 ≤ ks) (hJ : J a = some (.inr (6, [.null, .null, .null, .null, .null, .null, .null, .null, .null, .int 0]))) (hq : ∀ p1 q1 p2 q2 aa J', (J p1 = none ∧ J q1 = none ∧ J p2 = none ∧ J q2 = none ∧ J aa = none) → (p1 ≠ p2 ∧ q1 ≠ q2) → st_S J' a rp p1 p2 none (G.2.2.2.1 0) none none none aa 0 → st_P G J' p1 q1 0 (fun _ => 0) → st_P G J' p2 q2 0 (fun _ => 0) → J' aa = some (.inl (G.2.2.1 6, 8, .inr (.inr (.inr (.inr (fun _ => none)))))) → (∀ b, b ≠ a → b ≠ p1 → b ≠ q1 → b ≠ p2 → b ≠ q2 → b ≠ aa → J' b = J b) → Q (.inl none) J') : aw_W G mS_init (d + 1) Q 0 [some (.ref a), some (va_rf rp)] [] J kc ks := by
  first | refine aw_aload_n dS_init_0 rfl ?_ | refine aw_aload_nQ dS_init_0 rfl ?_ | refine aw_aload_nN dS_init_0 rfl ?_
  refine aw_oinit dS_init_1 wT_1_127 wOI wOC (Nat.le_of_ble_eq_true rfl) ?_
  first | refine aw_aload_n dS_init_4 rfl ?_ | refine aw_aload_nQ dS_init_4 rfl ?_ | refine aw_aload_nN dS_init_4 rfl ?_
  refine aw_new (kc' := kc - 1) (ks' := ks - 2) dS_init_5 nS_9 (by omega) (by omega) (fun p1 hp1 => ?_)
  refine aw_dup dS_init_8 rfl ?_
  refine aw_callIN0 (mc' := 1) (ms' := 4) (kc' := kc - 2) (ks' := ks - 6) dS_init_9 cS_11 (Nat.le_of_ble_eq_true rfl) (Nat.le_of_ble_eq_true rfl) (by omega) (by omega) ?_
  refine sp_Pinit (by omega) (by omega) aw_up_s (fun q1 hq1 => ?_)
  have np1 : a ≠ p1 := aw_nf hJ hp1
  have hpq1 : p1 ≠ q1 := aw_nf (x := _) aw_up_s hq1
  have hq1J : J q1 = none := by rw [aw_up_n (Ne.symm hpq1)] at hq1; exact hq1
  have nq1 : a ≠ q1 := aw_nf hJ hq1J
  generalize hH : aw_up (aw_up (aw_up J p1 _) q1 _) p1 _ = H1
  have b1 : ∀ b, b ≠ p1 → b ≠ q1 → H1 b = J b := fun b h1 h2 => by rw [← hH, aw_up_n h1, aw_up_n h2, aw_up_n h1]
  have v1 : H1 p1 = some (.inr (5, [.ref q1, .int 0])) := by rw [← hH]; exact aw_up_s
  have w1 : H1 q1 = some (.inl (G.2.2.1 0, 4, .inl (fun _ => 0))) := by rw [← hH, aw_up_n (Ne.symm hpq1), aw_up_s]
  have a1 : H1 a = some (.inr (6, [.null, .null, .null, .null, .null, .null, .null, .null, .null, .int 0])) := (b1 a np1 nq1).trans hJ
  clear hH
  refine aw_putF dS_init_12 sS_12 rfl a1 rfl rfl (Nat.le_of_ble_eq_true rfl) ?_
  first | refine aw_aload_n dS_init_15 rfl ?_ | refine aw_aload_nQ dS_init_15 rfl ?_ | refine aw_aload_nN dS_init_15 rfl ?_
  refine aw_new (kc' := kc - 3) (ks' := ks - 8) dS_init_16 nS_9 (by omega) (by omega) (fun p2 hp2 => ?_)
  refine aw_dup dS_init_19 rfl ?_
  refine aw_callIN0 (mc' := 1) (ms' := 4) (kc' := kc - 4) (ks' := ks - 12) dS_init_20 cS_11 (Nat.le_of_ble_eq_true rfl) (Nat.le_of_ble_eq_true rfl) (by omega) (by omega) ?_
  generalize hK : aw_up H1 a _ = H2 at hp2 ⊢
  have b2 : ∀ b, b ≠ a → H2 b = H1 b := fun b h1 => by rw [← hK, aw_up_n h1]
  have a2 : H2 a = some (.inr (6, [.null, .ref p1, .null, .null, .null, .null, .null, .null, .null, .int 0])) := by rw [← hK]; exact aw_up_s
  have n1 : ∀ b x, H2 b = some x → b ≠ p2 := fun b x h => aw_nf h hp2
  refine sp_Pinit (by omega) (by omega) aw_up_s (fun q2 hq2 => ?_)
  have hpq2 : p2 ≠ q2 := aw_nf (x := _) aw_up_s hq2
  have hq2H : H2 q2 = none := by rw [aw_up_n (Ne.symm hpq2)] at hq2; exact hq2
  have n2 : ∀ b x, H2 b = some x → b ≠ q2 := fun b x h => aw_nf h hq2H
  have v2 : H2 p1 = some (.inr (5, [.ref q1, .int 0])) := (b2 p1 (Ne.symm np1)).trans v1
  have w2 : H2 q1 = some (.inl (G.2.2.1 0, 4, .inl (fun _ => 0))) := (b2 q1 (Ne.symm nq1)).trans w1
  generalize hL : aw_up (aw_up (aw_up H2 p2 _) q2 _) p2 _ = H3
  have b3 : ∀ b, b ≠ p2 → b ≠ q2 → H3 b = H2 b := fun b h1 h2 => by rw [← hL, aw_up_n h1, aw_up_n h2, aw_up_n h1]
  have v3 : H3 p2 = some (.inr (5, [.ref q2, .int 0])) := by rw [← hL]; exact aw_up_s
  have w3 : H3 q2 = some (.inl (G.2.2.1 0, 4, .inl (fun _ => 0))) := by rw [← hL, aw_up_n (Ne.symm hpq2), aw_up_s]
  have a3 : H3 a = some (.inr (6, [.null, .ref p1, .null, .null, .null, .null, .null, .null, .null, .int 0])) := (b3 a (n1 _ _ a2) (n2 _ _ a2)).trans a2
  clear hL
  refine aw_putF dS_init_23 sS_18 rfl a3 rfl rfl (Nat.le_of_ble_eq_true rfl) ?_
  first | refine aw_aload_n dS_init_26 rfl ?_ | refine aw_aload_nQ dS_init_26 rfl ?_ | refine aw_aload_nN dS_init_26 rfl ?_
  refine aw_gets (i := 0) dS_init_27 (by decide) wT_1_143 ?_
  refine aw_put dS_init_30 sS_27 aw_up_s rfl rfl (Nat.le_of_ble_eq_true rfl) ?_
  first | refine aw_aload_n dS_init_33 rfl ?_ | refine aw_aload_nQ dS_init_33 rfl ?_ | refine aw_aload_nN dS_init_33 rfl ?_
  refine ai_bipush dS_init_34 (by decide +kernel) ?_
  refine aw_newQ (t := 6) (N := 8) (kc' := kc - 5) (ks' := ks - 20) dS_init_36 rfl wT_1_145 (by decide) (by decide) (by decide) (by decide) (by omega) (by omega) (fun aa haa => ?_)
  generalize hM : aw_up (aw_up H3 a _) a _ = H4 at haa ⊢
  have b4 : ∀ b, b ≠ a → H4 b = H3 b := fun b h1 => by rw [← hM, aw_up_n h1, aw_up_n h1]
  have a4 : H4 a = some (.inr (6, [.null, .ref p1, .ref p2, .null, .ref (G.2.2.2.1 0), .null, .null, .null, .null, .int 0])) := by rw [← hM]; exact aw_up_s
  have n4 : ∀ b x, H4 b = some x → b ≠ aa := fun b x h => aw_nf h haa
  clear hM
  refine aw_putF dS_init_39 sS_32 rfl ((aw_up_n (n4 _ _ a4)).trans a4) rfl rfl (Nat.le_of_ble_eq_true rfl) ?_
  first | refine aw_aload_n dS_init_42 rfl ?_ | refine aw_aload_nQ dS_init_42 rfl ?_ | refine aw_aload_nN dS_init_42 rfl ?_
  refine aw_aload_nQ dS_init_43 rfl ?_
  refine aw_putF dS_init_44 sS_36 rfl aw_up_s (by cases rp <;> rfl) (by cases rp <;> rfl) (Nat.le_of_ble_eq_true rfl) ?_
  refine aw_vret dS_init_47 rfl ?_
  rw [aw_uu]
  have hp2a : p2 ≠ a := Ne.symm (n1 _ _ a2)
  have hq2a : q2 ≠ a := Ne.symm (n2 _ _ a2)
  have k3 : ∀ b, b ≠ a → b ≠ p1 → b ≠ q1 → b ≠ p2 → b ≠ q2 → H4 b = J b := fun b h0 h1 h2 h3 h4 => (b4 b h0).trans ((b3 b h3 h4).trans ((b2 b h0).trans (b1 b h1 h2)))
  have x1 : H4 p1 = some (.inr (5, [.ref q1, .int 0])) := (b4 _ (Ne.symm np1)).trans ((b3 _ (n1 _ _ v2) (n2 _ _ v2)).trans v2)
  have x2 : H4 q1 = some (.inl (G.2.2.1 0, 4, .inl (fun _ => 0))) := (b4 _ (Ne.symm nq1)).trans ((b3 _ (n1 _ _ w2) (n2 _ _ w2)).trans w2)
  have x3 : H4 p2 = some (.inr (5, [.ref q2, .int 0])) := (b4 _ hp2a).trans v3
  have x4 : H4 q2 = some (.inl (G.2.2.1 0, 4, .inl (fun _ => 0))) := (b4 _ hq2a).trans w3
  have hp2J : J p2 = none := by
    by_cases z : J p2 = none
    · exact z
    · have z1 : p2 ≠ p1 := Ne.symm (n1 _ _ v2)
      have z2 : p2 ≠ q1 := Ne.symm (n1 _ _ w2)
      rw [b2 p2 hp2a, b1 p2 z1 z2] at hp2
      exact hp2
  have hq2J : J q2 = none := by
    have z1 : q2 ≠ p1 := Ne.symm (n2 _ _ v2)
    have z2 : q2 ≠ q1 := Ne.symm (n2 _ _ w2)
    rw [b2 q2 hq2a, b1 q2 z1 z2] at hq2H
    exact hq2H
  have haaJ : J aa = none := by
    rw [k3 aa (Ne.symm (n4 _ _ a4)) (Ne.symm (n4 _ _ x1)) (Ne.symm (n4 _ _ x2)) (Ne.symm (n4 _ _ x3)) (Ne.symm (n4 _ _ x4))] at haa
    exact haa
  refine hq p1 q1 p2 q2 aa _ ⟨hp1, hq1J, hp2J, hq2J, haaJ⟩ ⟨n1 _ _ v2, fun z => n2 _ _ w2 z⟩ ?_ ⟨?_, ?_, by decide, fun _ => (by decide : iB 0)⟩ ⟨?_, ?_, by decide, fun _ => (by decide : iB 0)⟩ ?_ (fun b h0 h1 h2 h3 h4 h5 => ?_)
  · show aw_up _ a _ a = _
    rw [aw_up_s, ← iI_z0]
    rfl
  · rw [aw_up_n (Ne.symm np1), aw_up_n (n4 _ _ x1), x1, iI_z0]
  · rw [aw_up_n (Ne.symm nq1), aw_up_n (n4 _ _ x2), x2, st_z4]
  · rw [aw_up_n hp2a, aw_up_n (n4 _ _ x3), x3, iI_z0]
  · rw [aw_up_n hq2a, aw_up_n (n4 _ _ x4), x4, st_z4]
  · rw [aw_up_n (Ne.symm (n4 _ _ a4)), aw_up_s]
  · rw [aw_up_n h0, aw_up_n h5, k3 b h0 h1 h2 h3 h4]

end ST10
