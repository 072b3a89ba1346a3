/-! filter -/
section ST21
variable {G : aw_G} {d : Nat} {Q : aw_O → aw_J → Prop} {J : aw_J} {kc ks : Nat}
theorem sp_filter {x aA aS aL aT aO aN : Nat} {nS nT : Int} {cS : Nat → Option Nat} {a lp ep aa k : Nat} {rp rf r1 r2 r3 : Option Nat} {n i : Int} {m : Int} {u v : Int64} (hkc : 4 ≤ kc) (hks : 24 ≤ ks) (hT : st_T J x aA aS aL aT aO aN nS nT) (hSA : J aS = some (.inl (G.2.2.1 4, 12, .inr (.inr (.inr (.inr cS)))))) (hn : 0 ≤ nS ∧ nS ≤ 12) (hi : iB i) (hSc : 0 ≤ i ∧ i < nS → cS i.toNat = some a ∧ k < 3 ∧ st_S J a rp lp ep rf (G.2.2.2.1 k) r1 r2 r3 aa n) (hm : iB m) (hbad : ¬ ((0 ≤ i ∧ i < nS) ∧ 0 ≤ m ∧ m < 256) → Q (.inr "java/lang/IllegalArgumentException") J) (hst : ((0 ≤ i ∧ i < nS) ∧ 0 ≤ m ∧ m < 256) → ¬ k = 0 → Q (.inr "java/lang/IllegalStateException") J) (hok : ((0 ≤ i ∧ i < nS) ∧ 0 ≤ m ∧ m < 256) → k = 0 → ∀ q, J q = none → Q (.inl none) (aw_up (aw_up J q (.inr (3, [.int (iI m), .long u, .long v]))) a (.inr (6, [va_rf rp, .ref lp, .ref ep, .ref q, .ref (G.2.2.2.1 k), va_rf r1, va_rf r2, va_rf r3, .ref aa, .int (iI n)])))) : aw_W G mT_filter (d + 3) Q 0 [some (.ref x), some (.int (iI i)), some (.int (iI m)), some (.long u), none, some (.long v), none, none] [] J kc ks := by
  first | refine aw_aload_n dT_filter_0 rfl ?_ | refine aw_aload_nQ dT_filter_0 rfl ?_ | refine aw_aload_nN dT_filter_0 rfl ?_
  refine aw_iload_n dT_filter_1 rfl ?_
  refine aw_callV1 (mc' := 1) (ms' := 6) (kc' := (kc - 1)) (ks' := (ks - 6)) dT_filter_2 cT_126 hT (Nat.le_of_ble_eq_true rfl) (Nat.le_of_ble_eq_true rfl) (by omega) (by omega) rfl ?_
  refine sp_scopeAt (by omega) (by omega) hT hSA hn hi (fun hr => ?_) (fun hr => ?_)
  · exact hbad (fun z => hr z.1)
  · obtain ⟨hc, hk3, hs⟩ := hSc hr
    rw [hc]
    first | refine aw_astore dT_filter_5 (by decide) rfl ?_ | refine aw_astoreQ dT_filter_5 (by decide) rfl ?_ | refine aw_astoreN dT_filter_5 (by decide) rfl ?_
    refine aw_iload_n dT_filter_7 rfl ?_
    refine ai_sipush dT_filter_8 (by decide +kernel) ?_
    refine aw_callS2 (mc' := 0) (ms' := 0) (kc' := (kc - 1)) (ks' := (ks - 6)) dT_filter_11 cT_80 (Nat.le_of_ble_eq_true rfl) (Nat.le_of_ble_eq_true rfl) (by omega) (by omega) rfl ?_
    refine sp_below hm (by decide) (fun hi11 => ?_) (fun hi11 => ?_)
    · refine ai_if_ne (tgt := 27) dT_filter_14 (by decide) (by omega) (fun _ => ?_) (fun hb14 => absurd hb14 (by decide))
      first | refine aw_aload dT_filter_27 rfl ?_ | refine aw_aloadQ dT_filter_27 rfl ?_ | refine aw_aloadN dT_filter_27 rfl ?_
      refine aw_callS1 (mc' := 1) (ms' := 6) (kc' := (kc - 2)) (ks' := (ks - 12)) dT_filter_29 cT_139 (Nat.le_of_ble_eq_true rfl) (Nat.le_of_ble_eq_true rfl) (by omega) (by omega) rfl ?_
      refine sp_requireOpen (by omega) (by omega) hk3 hs (fun hk0 => ?_) (fun hk0 => ?_)
      · first | refine aw_aload dT_filter_32 rfl ?_ | refine aw_aloadQ dT_filter_32 rfl ?_ | refine aw_aloadN dT_filter_32 rfl ?_
        refine aw_new (kc' := kc - 3) (ks' := ks - 15) dT_filter_34 nT_157 (by omega) (by omega) (fun q hq0 => ?_)
        refine aw_dup dT_filter_37 rfl ?_
        refine aw_iload_n dT_filter_38 rfl ?_
        refine aw_lload_n dT_filter_39 rfl ?_
        refine aw_lload dT_filter_40 rfl ?_
        refine aw_callIN3 (mc' := 0) (ms' := 0) (kc' := (kc - 3)) (ks' := (ks - 15)) dT_filter_42 cT_159 (Nat.le_of_ble_eq_true rfl) (Nat.le_of_ble_eq_true rfl) (by omega) (by omega) ?_
        refine sp_Finit aw_up_s ?_
        rw [aw_uu]
        refine aw_put dT_filter_45 sT_162 ((aw_up_n (aw_nf hs hq0)).trans hs) rfl rfl (Nat.le_of_ble_eq_true rfl) ?_
        refine aw_vret dT_filter_48 rfl ?_
        exact hok ⟨hr, by omega⟩ hk0 q hq0
      · exact hst ⟨hr, by omega⟩ hk0
    · refine ai_if_ne (tgt := 27) dT_filter_14 (by decide) (by omega) (fun hb14 => absurd hb14 (by decide)) (fun _ => ?_)
      refine aw_throw t_155 rfl dT_filter_17 dT_filter_20 dT_filter_21 dT_filter_23 dT_filter_26 (Nat.le_of_ble_eq_true rfl) (by omega) (by omega) ?_
      exact hbad (fun z => by omega)

end ST21
