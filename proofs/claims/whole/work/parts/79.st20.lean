/-! add -/
section ST20
variable {G : aw_G} {d : Nat} {Q : aw_O → aw_J → Prop} {J : aw_J} {kc ks : Nat}
def st_in (P : Int → Int) (n m : Int) : Prop := ∃ k, 0 ≤ k ∧ k < n ∧ P k = m
theorem sp_add {x aA aS aL aT aO aN : Nat} {nS nT : Int} {cS : Nat → Option Nat} {a lp ep aa k : Nat} {rp rf r1 r2 r3 : Option Nat} {n i : Int} {la ea : Nat} {nl ne m e : Int} {Pl Pe : Int → Int} (hkc : 3 ≤ kc) (hks : 18 ≤ ks) (hT : st_T J x aA aS aL aT aO aN nS nT) (hSA : J aS = some (.inl (G.2.2.1 4, 12, .inr (.inr (.inr (.inr cS)))))) (hn : 0 ≤ nS ∧ nS ≤ 12) (hi : iB i) (hSc : 0 ≤ i ∧ i < nS → cS i.toNat = some a ∧ k < 3 ∧ st_S J a rp lp ep rf (G.2.2.2.1 k) r1 r2 r3 aa n) (hm : iB m) (he : e = 0 ∨ e = 1) (hpa : 0 ≤ i ∧ i < nS → st_P G J lp la nl Pl ∧ st_P G J ep ea ne Pe) (hbad : ¬ ((0 ≤ i ∧ i < nS) ∧ 0 ≤ m ∧ m < 10) → Q (.inr "java/lang/IllegalArgumentException") J) (hst : ((0 ≤ i ∧ i < nS) ∧ 0 ≤ m ∧ m < 10) → ¬ k = 0 → Q (.inr "java/lang/IllegalStateException") J) (he0 : ((0 ≤ i ∧ i < nS) ∧ 0 ≤ m ∧ m < 10) → k = 0 → e = 1 → ¬ (ne < 4 ∧ ¬ (st_in Pe ne m)) → Q (.inl (some (.int (iI 0)))) J) (hl0 : ((0 ≤ i ∧ i < nS) ∧ 0 ≤ m ∧ m < 10) → k = 0 → e = 0 → ¬ (nl < 4 ∧ ¬ (st_in Pl nl m)) → Q (.inl (some (.int (iI 0)))) J) (he1 : ((0 ≤ i ∧ i < nS) ∧ 0 ≤ m ∧ m < 10) → k = 0 → e = 1 → ne < 4 → ¬ (st_in Pe ne m) → Q (.inl (some (.int (iI 1)))) (aw_up (aw_up J ea (.inl (G.2.2.1 0, 4, .inl (fun j : Nat => iI (if (j : Int) = ne then m else Pe (j : Int)))))) ep (.inr (5, [.ref ea, .int (iI (ne + 1))])))) (hl1 : ((0 ≤ i ∧ i < nS) ∧ 0 ≤ m ∧ m < 10) → k = 0 → e = 0 → nl < 4 → ¬ (st_in Pl nl m) → Q (.inl (some (.int (iI 1)))) (aw_up (aw_up J la (.inl (G.2.2.1 0, 4, .inl (fun j : Nat => iI (if (j : Int) = nl then m else Pl (j : Int)))))) lp (.inr (5, [.ref la, .int (iI (nl + 1))])))) : aw_W G mT_add (d + 3) Q 0 [some (.ref x), some (.int (iI i)), some (.int (iI m)), some (.int (iI e)), none] [] J kc ks := by
  first | refine aw_aload_n dT_add_0 rfl ?_ | refine aw_aload_nQ dT_add_0 rfl ?_ | refine aw_aload_nN dT_add_0 rfl ?_
  refine aw_iload_n dT_add_1 rfl ?_
  refine aw_callV1 (mc' := 1) (ms' := 6) (kc' := (kc - 1)) (ks' := (ks - 6)) dT_add_2 cT_126 hT (Nat.le_of_ble_eq_true rfl) (Nat.le_of_ble_eq_true rfl) (by omega) (by omega) rfl ?_
  refine sp_scopeAt (by omega) (by omega) hT hSA hn hi (fun hr => ?_) (fun hr => ?_)
  · exact hbad (fun z => hr z.1)
  · obtain ⟨hc, hk3, hs⟩ := hSc hr
    rw [hc]
    first | refine aw_astore dT_add_5 (by decide) rfl ?_ | refine aw_astoreQ dT_add_5 (by decide) rfl ?_ | refine aw_astoreN dT_add_5 (by decide) rfl ?_
    refine aw_iload_n dT_add_7 rfl ?_
    refine ai_bipush dT_add_8 (by decide +kernel) ?_
    refine aw_callS2 (mc' := 0) (ms' := 0) (kc' := (kc - 1)) (ks' := (ks - 6)) dT_add_10 cT_80 (Nat.le_of_ble_eq_true rfl) (Nat.le_of_ble_eq_true rfl) (by omega) (by omega) rfl ?_
    refine sp_below hm (by decide) (fun hi10 => ?_) (fun hi10 => ?_)
    · refine ai_if_ne (tgt := 26) dT_add_13 (by decide) (by omega) (fun _ => ?_) (fun hb13 => absurd hb13 (by decide))
      first | refine aw_aload dT_add_26 rfl ?_ | refine aw_aloadQ dT_add_26 rfl ?_ | refine aw_aloadN dT_add_26 rfl ?_
      refine aw_callS1 (mc' := 1) (ms' := 6) (kc' := (kc - 2)) (ks' := (ks - 12)) dT_add_28 cT_139 (Nat.le_of_ble_eq_true rfl) (Nat.le_of_ble_eq_true rfl) (by omega) (by omega) rfl ?_
      refine sp_requireOpen (by omega) (by omega) hk3 hs (fun hk0 => ?_) (fun hk0 => ?_)
      · obtain ⟨hPl, hPe⟩ := hpa hr
        refine aw_iload_n dT_add_31 rfl ?_
        refine ai_if_eq (tgt := 47) dT_add_32 (by decide) (by omega) (fun hb32 => ?_) (fun hb32 => ?_)
        · first | refine aw_aload dT_add_47 rfl ?_ | refine aw_aloadQ dT_add_47 rfl ?_ | refine aw_aloadN dT_add_47 rfl ?_
          refine aw_get dT_add_49 fT_152 hs rfl ?_
          refine aw_iload_n dT_add_52 rfl ?_
          refine aw_callVN1 (mc' := 0) (ms' := 0) (kc' := (kc - 2)) (ks' := (ks - 12)) dT_add_53 cT_146 hPl.1 (Nat.le_of_ble_eq_true rfl) (Nat.le_of_ble_eq_true rfl) (by omega) (by omega) ?_
          refine sp_append hPl hm (fun hz => ?_) (fun hz hy => ?_)
          · replace hz : ¬ (nl < 4 ∧ ¬ st_in Pl nl m) := hz
            refine aw_zret dT_add_56 rfl (by decide +kernel) ?_
            first
              | exact he1 ⟨hr, by omega⟩ hk0 (by omega) hz hy
              | exact hl1 ⟨hr, by omega⟩ hk0 (by omega) hz hy
              | exact he0 ⟨hr, by omega⟩ hk0 (by omega) hz
              | exact hl0 ⟨hr, by omega⟩ hk0 (by omega) hz
          · replace hy : ¬ st_in Pl nl m := hy
            refine aw_zret dT_add_56 rfl (by decide +kernel) ?_
            first
              | exact he1 ⟨hr, by omega⟩ hk0 (by omega) hz hy
              | exact hl1 ⟨hr, by omega⟩ hk0 (by omega) hz hy
              | exact he0 ⟨hr, by omega⟩ hk0 (by omega) hz
              | exact hl0 ⟨hr, by omega⟩ hk0 (by omega) hz
        · first | refine aw_aload dT_add_35 rfl ?_ | refine aw_aloadQ dT_add_35 rfl ?_ | refine aw_aloadN dT_add_35 rfl ?_
          refine aw_get dT_add_37 fT_142 hs rfl ?_
          refine aw_iload_n dT_add_40 rfl ?_
          refine aw_callVN1 (mc' := 0) (ms' := 0) (kc' := (kc - 2)) (ks' := (ks - 12)) dT_add_41 cT_146 hPe.1 (Nat.le_of_ble_eq_true rfl) (Nat.le_of_ble_eq_true rfl) (by omega) (by omega) ?_
          refine sp_append hPe hm (fun hz => ?_) (fun hz hy => ?_)
          · replace hz : ¬ (ne < 4 ∧ ¬ st_in Pe ne m) := hz
            refine aw_goto (tgt := 56) dT_add_44 (by decide) ?_
            refine aw_zret dT_add_56 rfl (by decide +kernel) ?_
            first
              | exact he1 ⟨hr, by omega⟩ hk0 (by omega) hz hy
              | exact hl1 ⟨hr, by omega⟩ hk0 (by omega) hz hy
              | exact he0 ⟨hr, by omega⟩ hk0 (by omega) hz
              | exact hl0 ⟨hr, by omega⟩ hk0 (by omega) hz
          · replace hy : ¬ st_in Pe ne m := hy
            refine aw_goto (tgt := 56) dT_add_44 (by decide) ?_
            refine aw_zret dT_add_56 rfl (by decide +kernel) ?_
            first
              | exact he1 ⟨hr, by omega⟩ hk0 (by omega) hz hy
              | exact hl1 ⟨hr, by omega⟩ hk0 (by omega) hz hy
              | exact he0 ⟨hr, by omega⟩ hk0 (by omega) hz
              | exact hl0 ⟨hr, by omega⟩ hk0 (by omega) hz
      · exact hst ⟨hr, by omega⟩ hk0
    · refine ai_if_ne (tgt := 26) dT_add_13 (by decide) (by omega) (fun hb13 => absurd hb13 (by decide)) (fun _ => ?_)
      refine aw_throw t_137 rfl dT_add_16 dT_add_19 dT_add_20 dT_add_22 dT_add_25 (Nat.le_of_ble_eq_true rfl) (by omega) (by omega) ?_
      exact hbad (fun z => by omega)

end ST20
