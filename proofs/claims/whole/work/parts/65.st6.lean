/-! the class: copy and isLike of archives -/
section ST6
variable {G : aw_G} {d : Nat} {Q : aw_O → aw_J → Prop} {J : aw_J} {kc ks : Nat}
def st_cut (cf : Nat → Option Nat) (n : Int) : Nat → Option Nat := fun k => if (k : Int) < n then cf k else none
theorem st_cut_s {cf : Nat → Option Nat} {i : Int} {c : Nat} (h0 : 0 ≤ i) (h : cf i.toNat = some c) : va_up (st_cut cf i) i.toNat (some c) = st_cut cf (i + 1) := by
  funext k
  unfold va_up st_cut
  by_cases e : k = i.toNat
  · rw [if_pos e, if_pos (by omega), e, h]
  · rw [if_neg e]
    by_cases e2 : (k : Int) < i
    · rw [if_pos e2, if_pos (by omega)]
    · rw [if_neg e2, if_neg (by omega)]
theorem st_cut_0 (cf : Nat → Option Nat) : (fun _ => none) = st_cut cf 0 := by
  funext k
  unfold st_cut
  rw [if_neg (by omega)]
theorem sp_copy_l1 {a fa da q fq dq : Nat} {cf cd : Nat → Option Nat} {n m : Int} {z1 z2 : Value} {F : Int → Int × Int × Int} (hA : st_A G J a fa da cf cd n m) (hq : J q = some (.inr (0, [.ref fq, z1, .ref dq, z2]))) (hF : st_CF J cf n F) {e0 : vp_A} (hfq : J fq = some (.inl (G.2.2.1 7, e0))) (hne : fq ≠ fa) (hk : aw_W G mA_copy d Q 36 [some (.ref a), some (.ref q), some (.int (iI n))] [] (aw_up J fq (.inl (G.2.2.1 7, 8, .inr (.inr (.inr (.inr (st_cut cf n))))))) kc ks) : ∀ i : Int, i ≤ n → 0 ≤ i → aw_W G mA_copy d Q 10 [some (.ref a), some (.ref q), some (.int (iI i))] [] (aw_up J fq (.inl (G.2.2.1 7, 8, .inr (.inr (.inr (.inr (st_cut cf i))))))) kc ks := by
  have hn8 := hA.2.2.2.1
  refine il_up n (fun i hi ih h0 => ?_)
  refine aw_iload_n dA_copy_10 rfl ?_
  first | refine aw_aload_n dA_copy_11 rfl ?_ | refine aw_aload_nQ dA_copy_11 rfl ?_ | refine aw_aload_nN dA_copy_11 rfl ?_
  refine aw_get dA_copy_12 fA_27 ((aw_up_n (aw_ne hA.1 hfq (fun h => by cases h))).trans hA.1) rfl ?_
  refine ai_icmp_ge (tgt := 36) dA_copy_15 (by decide) (by omega) (by omega) (fun hb15 => ?_) (fun hb15 => ?_)
  · have e9 : i = n := by omega
    subst e9
    exact hk
  · first | refine aw_aload_n dA_copy_18 rfl ?_ | refine aw_aload_nQ dA_copy_18 rfl ?_ | refine aw_aload_nN dA_copy_18 rfl ?_
    refine aw_get dA_copy_19 fA_11 ((aw_up_n (aw_ne hq hfq (fun h => by cases h))).trans hq) rfl ?_
    refine aw_iload_n dA_copy_22 rfl ?_
    first | refine aw_aload_n dA_copy_23 rfl ?_ | refine aw_aload_nQ dA_copy_23 rfl ?_ | refine aw_aload_nN dA_copy_23 rfl ?_
    refine aw_get dA_copy_24 fA_11 ((aw_up_n (aw_ne hA.1 hfq (fun h => by cases h))).trans hA.1) rfl ?_
    refine aw_iload_n dA_copy_27 rfl ?_
    refine aw_aald dA_copy_28 rfl ((aw_up_n (Ne.symm hne)).trans hA.2.1) (iI_in (by omega) (by omega) (by omega)) ?_
    obtain ⟨hFb, c, hc1, hc2⟩ := hF i h0 (by omega)
    rw [iI_cl (by omega), hc1]
    refine aw_aast dA_copy_29 rfl rfl aw_up_s ((aw_up_n (aw_ne hc2 hfq (fun h => by cases h))).trans hc2) (iI_in (by omega) (by omega) (by omega)) ?_
    rw [iI_cl (by omega), st_cut_s h0 hc1, aw_uu]
    refine ai_iinc dA_copy_30 rfl (by decide) rfl ?_
    refine aw_goto (tgt := 10) dA_copy_33 (by decide) ?_
    exact ih (by omega) (by omega)
theorem sp_copy_l2 {a fa da q fq dq : Nat} {cf cd : Nat → Option Nat} {n m : Int} {z1 z2 : Value} {E : Int → Int × Int} (hA : st_A G J a fa da cf cd n m) (hq : J q = some (.inr (0, [.ref fq, z1, .ref dq, z2]))) (hE : st_DE J cd m E) {e0 : vp_A} (hdq : J dq = some (.inl (G.2.2.1 8, e0))) (hne : dq ≠ da) (hk : aw_W G mA_copy d Q 64 [some (.ref a), some (.ref q), some (.int (iI m))] [] (aw_up J dq (.inl (G.2.2.1 8, 4, .inr (.inr (.inr (.inr (st_cut cd m))))))) kc ks) : ∀ i : Int, i ≤ m → 0 ≤ i → aw_W G mA_copy d Q 38 [some (.ref a), some (.ref q), some (.int (iI i))] [] (aw_up J dq (.inl (G.2.2.1 8, 4, .inr (.inr (.inr (.inr (st_cut cd i))))))) kc ks := by
  have hn8 := hA.2.2.2.2
  refine il_up m (fun i hi ih h0 => ?_)
  refine aw_iload_n dA_copy_38 rfl ?_
  first | refine aw_aload_n dA_copy_39 rfl ?_ | refine aw_aload_nQ dA_copy_39 rfl ?_ | refine aw_aload_nN dA_copy_39 rfl ?_
  refine aw_get dA_copy_40 fA_34 ((aw_up_n (aw_ne hA.1 hdq (fun h => by cases h))).trans hA.1) rfl ?_
  refine ai_icmp_ge (tgt := 64) dA_copy_43 (by decide) (by omega) (by omega) (fun hb43 => ?_) (fun hb43 => ?_)
  · have e9 : i = m := by omega
    subst e9
    exact hk
  · first | refine aw_aload_n dA_copy_46 rfl ?_ | refine aw_aload_nQ dA_copy_46 rfl ?_ | refine aw_aload_nN dA_copy_46 rfl ?_
    refine aw_get dA_copy_47 fA_19 ((aw_up_n (aw_ne hq hdq (fun h => by cases h))).trans hq) rfl ?_
    refine aw_iload_n dA_copy_50 rfl ?_
    first | refine aw_aload_n dA_copy_51 rfl ?_ | refine aw_aload_nQ dA_copy_51 rfl ?_ | refine aw_aload_nN dA_copy_51 rfl ?_
    refine aw_get dA_copy_52 fA_19 ((aw_up_n (aw_ne hA.1 hdq (fun h => by cases h))).trans hA.1) rfl ?_
    refine aw_iload_n dA_copy_55 rfl ?_
    refine aw_aald dA_copy_56 rfl ((aw_up_n (Ne.symm hne)).trans hA.2.2.1) (iI_in (by omega) (by omega) (by omega)) ?_
    obtain ⟨hFb, c, hc1, hc2⟩ := hE i h0 (by omega)
    rw [iI_cl (by omega), hc1]
    refine aw_aast dA_copy_57 rfl rfl aw_up_s ((aw_up_n (aw_ne hc2 hdq (fun h => by cases h))).trans hc2) (iI_in (by omega) (by omega) (by omega)) ?_
    rw [iI_cl (by omega), st_cut_s h0 hc1, aw_uu]
    refine ai_iinc dA_copy_58 rfl (by decide) rfl ?_
    refine aw_goto (tgt := 38) dA_copy_61 (by decide) ?_
    exact ih (by omega) (by omega)
theorem aw_id {J : aw_J} {a : Nat} {e : va_E} (h : J a = some e) : aw_up J a e = J := by
  funext c
  by_cases z : c = a
  · rw [z, aw_up_s, h]
  · rw [aw_up_n z]
theorem sp_copy_e {a fa da q fq dq : Nat} {cf cd : Nat → Option Nat} {n m : Int} {z1 z2 : Value} (hA : st_A G J a fa da cf cd n m) (hq : J q = some (.inr (0, [.ref fq, z1, .ref dq, z2]))) (haq : a ≠ q) {i : Int} (hk : Q (.inl (some (.ref q))) (aw_up J q (.inr (0, [.ref fq, .int (iI n), .ref dq, .int (iI m)])))) : aw_W G mA_copy d Q 64 [some (.ref a), some (.ref q), some (.int (iI i))] [] J kc ks := by
  first | refine aw_aload_n dA_copy_64 rfl ?_ | refine aw_aload_nQ dA_copy_64 rfl ?_ | refine aw_aload_nN dA_copy_64 rfl ?_
  first | refine aw_aload_n dA_copy_65 rfl ?_ | refine aw_aload_nQ dA_copy_65 rfl ?_ | refine aw_aload_nN dA_copy_65 rfl ?_
  refine aw_get dA_copy_66 fA_27 hA.1 rfl ?_
  refine aw_put dA_copy_69 sA_27 hq rfl rfl (Nat.le_of_ble_eq_true rfl) ?_
  first | refine aw_aload_n dA_copy_72 rfl ?_ | refine aw_aload_nQ dA_copy_72 rfl ?_ | refine aw_aload_nN dA_copy_72 rfl ?_
  first | refine aw_aload_n dA_copy_73 rfl ?_ | refine aw_aload_nQ dA_copy_73 rfl ?_ | refine aw_aload_nN dA_copy_73 rfl ?_
  refine aw_get dA_copy_74 fA_34 ((aw_up_n haq).trans hA.1) rfl ?_
  refine aw_put dA_copy_77 sA_34 aw_up_s rfl rfl (Nat.le_of_ble_eq_true rfl) ?_
  first | refine aw_aload_n dA_copy_80 rfl ?_ | refine aw_aload_nQ dA_copy_80 rfl ?_ | refine aw_aload_nN dA_copy_80 rfl ?_
  refine aw_aret dA_copy_81 rfl (by first | exact Or.inr ⟨_, rfl⟩ | exact Or.inl rfl | exact aw_rf_or _) ?_
  rw [aw_uu]
  exact hk
theorem sp_copy {a fa da : Nat} {cf cd : Nat → Option Nat} {n m : Int} {F : Int → Int × Int × Int} {E : Int → Int × Int} (hkc : 3 ≤ kc) (hks : 16 ≤ ks) (hA : st_A G J a fa da cf cd n m) (hF : st_CF J cf n F) (hE : st_DE J cd m E) (hq : ∀ q fq dq J', J q = none → J fq = none → J dq = none → q ≠ fq → q ≠ dq → fq ≠ dq → st_A G J' q fq dq (st_cut cf n) (st_cut cd m) n m → (∀ b, b ≠ q → b ≠ fq → b ≠ dq → J' b = J b) → Q (.inl (some (.ref q))) J') : aw_W G mA_copy (d + 1) Q 0 [some (.ref a), none, none] [] J kc ks := by
  refine aw_new (kc' := kc - 1) (ks' := ks - 4) dA_copy_0 nA_12 (by omega) (by omega) (fun q hq0 => ?_)
  refine aw_dup dA_copy_3 rfl ?_
  refine aw_callI0 (mc' := 2) (ms' := 12) (kc' := kc - 3) (ks' := ks - 16) dA_copy_4 cA_49 (Nat.le_of_ble_eq_true rfl) (Nat.le_of_ble_eq_true rfl) (by omega) (by omega) ?_
  refine sp_Ainit (by omega) (by omega) aw_up_s (fun fq dq hf0 hd0 hfd => ?_)
  have hqf : q ≠ fq := aw_nf (x := _) aw_up_s hf0
  have hqd : q ≠ dq := aw_nf (x := _) aw_up_s hd0
  have hf1 : J fq = none := by rw [aw_up_n (Ne.symm hqf)] at hf0; exact hf0
  have hd1 : J dq = none := by rw [aw_up_n (Ne.symm hqd)] at hd0; exact hd0
  generalize hH : aw_up (aw_up (aw_up (aw_up J q _) fq _) dq _) q _ = H
  have hb : ∀ b, b ≠ q → b ≠ fq → b ≠ dq → H b = J b := fun b h1 h2 h3 => by rw [← hH, aw_up_n h1, aw_up_n h3, aw_up_n h2, aw_up_n h1]
  have hHq : H q = some (.inr (0, [.ref fq, .int 0, .ref dq, .int 0])) := by rw [← hH]; exact aw_up_s
  have hHf : H fq = some (.inl (G.2.2.1 7, 8, .inr (.inr (.inr (.inr (st_cut cf 0)))))) := by rw [← hH, aw_up_n (Ne.symm hqf), aw_up_n hfd, aw_up_s, st_cut_0 cf]
  have hHd : H dq = some (.inl (G.2.2.1 8, 4, .inr (.inr (.inr (.inr (st_cut cd 0)))))) := by rw [← hH, aw_up_n (Ne.symm hqd), aw_up_s, st_cut_0 cd]
  have hko : ∀ b x, J b = some x → H b = some x := fun b x h => (hb b (aw_nf h hq0) (aw_nf h hf1) (aw_nf h hd1)).trans h
  have hA2 : st_A G H a fa da cf cd n m := ⟨hko _ _ hA.1, hko _ _ hA.2.1, hko _ _ hA.2.2.1, hA.2.2.2⟩
  have hF2 : st_CF H cf n F := fun i q1 q2 => by
    obtain ⟨k1, c, k2, k3⟩ := hF i q1 q2
    exact ⟨k1, c, k2, hko _ _ k3⟩
  have hE2 : st_DE H cd m E := fun i q1 q2 => by
    obtain ⟨k1, c, k2, k3⟩ := hE i q1 q2
    exact ⟨k1, c, k2, hko _ _ k3⟩
  first | refine aw_astore_n dA_copy_7 (by decide) rfl ?_ | refine aw_astore_nQ dA_copy_7 (by decide) rfl ?_ | refine aw_astore_nN dA_copy_7 (by decide) rfl ?_
  refine ai_iconst dA_copy_8 ?_
  refine aw_istore_n dA_copy_9 (by decide) rfl ?_
  rw [← aw_id hHf]
  refine sp_copy_l1 (m := m) hA2 hHq hF2 hHf (Ne.symm (aw_nf hA.2.1 hf1)) ?_ 0 hA.2.2.2.1.1 (by decide)
  have haf : ∀ b x, J b = some x → b ≠ fq := fun b x h => aw_nf h hf1
  refine ai_iconst dA_copy_36 ?_
  refine aw_istore_n dA_copy_37 (by decide) rfl ?_
  have hA3 : st_A G (aw_up H fq (.inl (G.2.2.1 7, 8, .inr (.inr (.inr (.inr (st_cut cf n))))))) a fa da cf cd n m := ⟨(aw_up_n (haf _ _ hA.1)).trans hA2.1, (aw_up_n (haf _ _ hA.2.1)).trans hA2.2.1, (aw_up_n (haf _ _ hA.2.2.1)).trans hA2.2.2.1, hA.2.2.2⟩
  have hE3 : st_DE (aw_up H fq (.inl (G.2.2.1 7, 8, .inr (.inr (.inr (.inr (st_cut cf n))))))) cd m E := fun i q1 q2 => by
    obtain ⟨k1, c, k2, k3⟩ := hE i q1 q2
    exact ⟨k1, c, k2, (aw_up_n (haf _ _ k3)).trans (hko _ _ k3)⟩
  have hd3 : (aw_up H fq (.inl (G.2.2.1 7, 8, .inr (.inr (.inr (.inr (st_cut cf n))))))) dq = some (.inl (G.2.2.1 8, 4, .inr (.inr (.inr (.inr (st_cut cd 0)))))) := (aw_up_n (Ne.symm hfd)).trans hHd
  rw [← aw_id hd3]
  refine sp_copy_l2 hA3 ((aw_up_n hqf).trans hHq) hE3 hd3 (Ne.symm (aw_nf hA.2.2.1 hd1)) ?_ 0 hA.2.2.2.2.1 (by decide)
  have had : ∀ b x, J b = some x → b ≠ dq := fun b x h => aw_nf h hd1
  refine sp_copy_e (cf := cf) (cd := cd) (fa := fa) (da := da) ⟨(aw_up_n (had _ _ hA.1)).trans hA3.1, (aw_up_n (had _ _ hA.2.1)).trans hA3.2.1, (aw_up_n (had _ _ hA.2.2.1)).trans hA3.2.2.1, hA.2.2.2⟩ ((aw_up_n hqd).trans ((aw_up_n hqf).trans hHq)) (aw_nf hA.1 hq0) ?_
  refine hq q fq dq _ hq0 hf1 hd1 hqf hqd hfd ⟨aw_up_s, ?_, ?_, hA.2.2.2⟩ (fun b h1 h2 h3 => ?_)
  · rw [aw_up_n (Ne.symm hqf), aw_up_n hfd, aw_up_s]
  · rw [aw_up_n (Ne.symm hqd), aw_up_s]
  · rw [aw_up_n h1, aw_up_n h3, aw_up_n h2, hb b h1 h2 h3]

end ST6
