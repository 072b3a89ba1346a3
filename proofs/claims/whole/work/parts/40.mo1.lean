/-! the reference: helpers, file, descriptor, wipe -/
section MO1
variable {G : aw_G} {b : Nat} {ad : Nat → Nat} {d : Nat} {Q : aw_O → mo_S → Prop} {s : mo_S} {kc ks : Nat}
theorem mo_thrown (hq : Q (.inl (some (.int (iI (s.1 0))))) s) : mw G b ad mM_thrown d Q 0 [some (.ref b)] [] s kc ks := by
  refine mw_aload_n dM_thrown_0 rfl ?_
  refine mw_getI dM_thrown_1 fM_103 rfl (fun hv1 => ?_)
  refine mw_iret dM_thrown_4 rfl ?_
  exact hq

theorem mo_fails {x c : Int} (hx : x = 0 ∨ x = 1) (hc : iB c) (h0 : x = 0 → Q (.inl (some (.int (iI x)))) (mo_uz s 0 0)) (h1 : ¬ x = 0 → Q (.inl (some (.int (iI x)))) (mo_uz s 0 c)) : mw G b ad mM_fails d Q 0 [some (.ref b), some (.int (iI x)), some (.int (iI c))] [] s kc ks := by
  refine mw_aload_n dM_fails_0 rfl ?_
  refine mw_iload_n dM_fails_1 rfl ?_
  refine mw_if_eq (tgt := 9) dM_fails_2 (by decide) (by omega) (fun hb2 => ?_) (fun hb2 => ?_)
  · refine mw_iconst dM_fails_9 ?_
    refine mw_putI dM_fails_10 sM_103 (by decide) rfl (by omega) ?_
    refine mw_iload_n dM_fails_13 rfl ?_
    refine mw_zret dM_fails_14 rfl (by omega) ?_
    first | exact h0 (by omega) | exact h1 (by omega)
  · refine mw_iload_n dM_fails_5 rfl ?_
    refine mw_goto (tgt := 10) dM_fails_6 (by decide) ?_
    refine mw_putI dM_fails_10 sM_103 (by decide) rfl (by omega) ?_
    refine mw_iload_n dM_fails_13 rfl ?_
    refine mw_zret dM_fails_14 rfl (by omega) ?_
    first | exact h0 (by omega) | exact h1 (by omega)

theorem mo_fails1 {c : Int} (hc : iB c) (hq : Q (.inl (some (.int (iI 1)))) (mo_uz s 0 c)) : mw G b ad mM_fails d Q 0 [some (.ref b), some (.int (iI 1)), some (.int (iI c))] [] s kc ks := mo_fails (Or.inr rfl) hc (fun h => absurd h (by decide)) (fun _ => hq)
theorem mo_fails0 {c : Int} (hc : iB c) (hq : Q (.inl (some (.int (iI 0)))) (mo_uz s 0 0)) : mw G b ad mM_fails d Q 0 [some (.ref b), some (.int (iI 0)), some (.int (iI c))] [] s kc ks := mo_fails (Or.inl rfl) hc (fun _ => hq) (fun h => absurd rfl h)
theorem mo_in {x l h : Int} (hx : iB x) (hl : iB l) (hh : iB h) (h1 : l ≤ x ∧ x ≤ h → Q (.inl (some (.int (iI 1)))) s) (h0 : ¬ (l ≤ x ∧ x ≤ h) → Q (.inl (some (.int (iI 0)))) s) : mw G b ad mM_in d Q 0 [some (.int (iI x)), some (.int (iI l)), some (.int (iI h))] [] s kc ks := by
  refine mw_iload_n dM_in_0 rfl ?_
  refine mw_iload_n dM_in_1 rfl ?_
  refine mw_icmp_lt (tgt := 14) dM_in_2 (by decide) (by omega) (by omega) (fun hb2 => ?_) (fun hb2 => ?_)
  · refine mw_iconst dM_in_14 ?_
    refine mw_zret dM_in_15 rfl (by omega) ?_
    first | exact h1 (by omega) | exact h0 (by omega)
  · refine mw_iload_n dM_in_5 rfl ?_
    refine mw_iload_n dM_in_6 rfl ?_
    refine mw_icmp_gt (tgt := 14) dM_in_7 (by decide) (by omega) (by omega) (fun hb7 => ?_) (fun hb7 => ?_)
    · refine mw_iconst dM_in_14 ?_
      refine mw_zret dM_in_15 rfl (by omega) ?_
      first | exact h1 (by omega) | exact h0 (by omega)
    · refine mw_iconst dM_in_10 ?_
      refine mw_goto (tgt := 15) dM_in_11 (by decide) ?_
      refine mw_zret dM_in_15 rfl (by omega) ?_
      first | exact h1 (by omega) | exact h0 (by omega)

theorem mo_wipe {a : Int} (ha : iB a) (hbad : ¬ (0 ≤ a ∧ a ≤ 9) → Q (.inl none) (mo_uz s 0 1)) (hok : 0 ≤ a ∧ a ≤ 9 → Q (.inl none) (mo_uf (mo_uf (mo_uz s 0 0) 1 a 0) 3 a 0)) : mw G b ad mM_wipe (d + 1) Q 0 [some (.ref b), some (.int (iI a))] [] s kc ks := by
  refine mw_aload_n dM_wipe_0 rfl ?_
  refine mw_iload_n dM_wipe_1 rfl ?_
  refine mw_iconst dM_wipe_2 ?_
  refine mw_bipush dM_wipe_3 (by decide +kernel) ?_
  refine mw_callS3 dM_wipe_5 cM_106 (Nat.le_of_ble_eq_true rfl) (Nat.le_of_ble_eq_true rfl) rfl ?_
  refine mo_in (by omega) (by omega) (by omega) (fun hi5 => ?_) (fun hi5 => ?_)
  · refine mw_if_ne (tgt := 15) dM_wipe_8 (by decide) (by omega) (fun _ => ?_) (fun hb8 => absurd hb8 (by decide))
    refine mw_iconst dM_wipe_15 ?_
    refine mw_iconst dM_wipe_16 ?_
    refine mw_callV2 dM_wipe_17 cM_110 (Nat.le_of_ble_eq_true rfl) (Nat.le_of_ble_eq_true rfl) rfl ?_
    refine mo_fails0 (by decide) ?_
    refine mw_if_eq (tgt := 24) dM_wipe_20 (by decide) (by omega) (fun _ => ?_) (fun hb20 => absurd hb20 (by decide))
    refine mw_aload_n dM_wipe_24 rfl ?_
    refine mw_get dM_wipe_25 fM_7 rfl ?_
    refine mw_iload_n dM_wipe_28 rfl ?_
    refine mw_iconst dM_wipe_29 ?_
    refine mw_iast dM_wipe_30 rfl rfl (by simp only [mo_len]; omega) (by omega) (by omega) ?_
    refine mw_aload_n dM_wipe_31 rfl ?_
    refine mw_get dM_wipe_32 fM_16 rfl ?_
    refine mw_iload_n dM_wipe_35 rfl ?_
    refine mw_iconst dM_wipe_36 ?_
    refine mw_iast dM_wipe_37 rfl rfl (by simp only [mo_len]; omega) (by omega) (by omega) ?_
    refine mw_vret dM_wipe_38 rfl ?_
    first | exact hok (by omega) | exact hbad (by omega)
  · refine mw_if_ne (tgt := 15) dM_wipe_8 (by decide) (by omega) (fun hb8 => absurd hb8 (by decide)) (fun _ => ?_)
    refine mw_iconst dM_wipe_11 ?_
    refine mw_goto (tgt := 16) dM_wipe_12 (by decide) ?_
    refine mw_iconst dM_wipe_16 ?_
    refine mw_callV2 dM_wipe_17 cM_110 (Nat.le_of_ble_eq_true rfl) (Nat.le_of_ble_eq_true rfl) rfl ?_
    refine mo_fails1 (by decide) ?_
    refine mw_if_eq (tgt := 24) dM_wipe_20 (by decide) (by omega) (fun hb20 => absurd hb20 (by decide)) (fun _ => ?_)
    refine mw_vret dM_wipe_23 rfl ?_
    first | exact hok (by omega) | exact hbad (by omega)

theorem il_up {P : Int → Prop} (n : Int) (step : ∀ i, i ≤ n → (i < n → P (i + 1)) → P i) : ∀ i, i ≤ n → P i := by
  have key : ∀ (t : Nat) (i : Int), i ≤ n → (n - i).toNat ≤ t → P i := by
    intro t
    induction t with
    | zero => exact fun i h1 h2 => step i h1 (fun h => absurd h2 (by omega))
    | succ t ih => exact fun i h1 h2 => step i h1 (fun h => ih (i + 1) (by omega) (by omega))
  exact fun i hi => key _ i hi (Nat.le_refl _)
/-- the least place below n where p holds, or n -/
def mo_lst (p : Int → Prop) (n k : Int) : Prop := 0 ≤ k ∧ k ≤ n ∧ (∀ j, 0 ≤ j → j < k → ¬ p j) ∧ (k < n → p k)
theorem mo_file_l {a n u v : Int} (ha : 0 ≤ a ∧ a ≤ 9) (hn : iB n) (hf : 0 ≤ s.2.1 1 a ∧ s.2.1 1 a ≤ 8) (hk : ∀ k, mo_lst (fun j => s.2.1 2 (24 * a + 3 * j) = n) (s.2.1 1 a) k → mw G b ad mM_file (d + 1) Q 95 [some (.ref b), some (.int (iI a)), some (.int (iI n)), some (.int (iI u)), some (.int (iI v)), some (.int (iI k)), none] [] s kc ks) : ∀ i : Int, i ≤ s.2.1 1 a → 0 ≤ i → (∀ j, 0 ≤ j → j < i → ¬ s.2.1 2 (24 * a + 3 * j) = n) → mw G b ad mM_file (d + 1) Q 60 [some (.ref b), some (.int (iI a)), some (.int (iI n)), some (.int (iI u)), some (.int (iI v)), some (.int (iI i)), none] [] s kc ks := by
  refine il_up (s.2.1 1 a) (fun i hi ih h0 hj => ?_)
  refine mw_iload dM_file_60 rfl ?_
  refine mw_aload_n dM_file_62 rfl ?_
  refine mw_get dM_file_63 fM_7 rfl ?_
  refine mw_iload_n dM_file_66 rfl ?_
  refine mw_iald dM_file_67 rfl rfl (by simp only [mo_len]; omega) (by omega) (fun hv67 => ?_)
  refine mw_icmp_ge (tgt := 95) dM_file_68 (by decide) (by omega) (by omega) (fun hb68 => ?_) (fun hb68 => ?_)
  · exact hk i (by first | exact ⟨by omega, by omega, hj, fun _ => by omega⟩ | exact ⟨by omega, by omega, hj, fun h => absurd h (by omega)⟩)
  · refine mw_aload_n dM_file_71 rfl ?_
    refine mw_get dM_file_72 fM_13 rfl ?_
    refine mw_bipush dM_file_75 (by decide +kernel) ?_
    refine mw_iload_n dM_file_77 rfl ?_
    refine mw_imul dM_file_78 ?_
    refine mw_iconst dM_file_79 ?_
    refine mw_iload dM_file_80 rfl ?_
    refine mw_imul dM_file_82 ?_
    refine mw_iadd dM_file_83 ?_
    refine mw_iald dM_file_84 rfl rfl (by simp only [mo_len]; omega) (by omega) (fun hv84 => ?_)
    refine mw_iload_n dM_file_85 rfl ?_
    refine mw_icmp_eq (tgt := 95) dM_file_86 (by decide) (by omega) (by omega) (fun hb86 => ?_) (fun hb86 => ?_)
    · exact hk i (by first | exact ⟨by omega, by omega, hj, fun _ => by omega⟩ | exact ⟨by omega, by omega, hj, fun h => absurd h (by omega)⟩)
    · refine mw_iinc dM_file_89 rfl (by decide) rfl ?_
      refine mw_goto (tgt := 60) dM_file_92 (by decide) ?_
      exact ih (by omega) (by omega) (fun j h1 h2 => by
        by_cases e : j = i
        · rw [e]; omega
        · exact hj j h1 (by omega))
end MO1
