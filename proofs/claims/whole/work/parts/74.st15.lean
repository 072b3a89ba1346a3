/-! visibleDescriptor -/
section ST15
variable {G : aw_G} {d : Nat} {Q : aw_O → aw_J → Prop} {J : aw_J} {kc ks : Nat}
theorem sp_vis_l {t : mo_T} {y : st_Y} {p f0 : Int} {n0 : Nat} {r : Option (Int × Int)} (hp : iB p) (hr0 : t.1 8 0 = 0) (hgb : ∀ k i, iB (t.1 k i)) (hnr : ∀ o v, r = some (o, v) → v ≤ 63) (hch0 : st_ch G J t y n0 f0) (hc0 : mo_chn t n0 f0) (hdr0 : mo_dr t p n0 f0 r) (hnone : r = none → Q (.inl (some .null)) J) (hno : ∀ o v, r = some (o, v) → ¬ (v < 8 ∨ mo_lt t p v n0 f0) → Q (.inl (some .null)) J) (hok : ∀ o v c, r = some (o, v) → (v < 8 ∨ mo_lt t p v n0 f0) → (∃ w, J c = some (.inr (2, [w, .int (iI v)]))) → Q (.inl (some (.ref c))) J) : ∀ (n : Nat) (l : Int) (x3 : Option Value), st_ch G J t y n l → mo_chn t n l → mo_dr t p n l r → aw_W G mT_visibleDescriptor (d + 1 + 1 + 1) Q 2 [some (.ref (yLo y f0)), some (.int (iI p)), some (.ref (yLo y l)), x3] [] J kc ks := by
  have root : ∀ (l : Int) (x3 : Option Value), l = 0 → st_LD G J t y l → r = none → aw_W G mT_visibleDescriptor (d + 1 + 1 + 1) Q 2 [some (.ref (yLo y f0)), some (.int (iI p)), some (.ref (yLo y l)), x3] [] J kc ks := by
    intro l x3 hl hLD hrn
    subst hl
    have hN0 : (t.1 8 0).toNat = 0 := by omega
    refine aw_aload_n dT_visibleDescriptor_2 rfl ?_
    refine aw_ifnull (tgt := 42) (r := some (yLo y 0)) dT_visibleDescriptor_3 (by decide) (fun z => absurd z (by simp)) (fun _ => ?_)
    refine aw_aload_n dT_visibleDescriptor_6 rfl ?_
    refine aw_iload_n dT_visibleDescriptor_7 rfl ?_
    refine aw_callVN1 (mc' := 0) (ms' := 0) (kc' := kc) (ks' := ks) dT_visibleDescriptor_8 cT_357 hLD.1 (Nat.le_of_ble_eq_true rfl) (Nat.le_of_ble_eq_true rfl) (by omega) (by omega) ?_
    refine sp_LdescOf hLD.2.1 (by omega) hLD.1 hp (fun i k c q1 q2 => absurd q2 (by omega)) (fun _ => ?_)
    refine aw_astore_nN dT_visibleDescriptor_11 (by decide) rfl ?_
    refine aw_aload_nN dT_visibleDescriptor_12 rfl ?_
    refine aw_ifnull (tgt := 34) (r := none) dT_visibleDescriptor_13 (by decide) (fun _ => ?_) (fun z => absurd rfl z)
    refine aw_aload_n dT_visibleDescriptor_34 rfl ?_
    refine aw_get dT_visibleDescriptor_35 fT_210 hLD.1 rfl ?_
    rw [show st_pa y t 0 = none from if_pos rfl]
    refine aw_astore_nN dT_visibleDescriptor_38 (by decide) rfl ?_
    refine aw_goto (tgt := 2) dT_visibleDescriptor_39 (by decide) ?_
    refine aw_aload_nN dT_visibleDescriptor_2 rfl ?_
    refine aw_ifnull (tgt := 42) (r := none) dT_visibleDescriptor_3 (by decide) (fun _ => ?_) (fun z => absurd rfl z)
    refine aw_null dT_visibleDescriptor_42 ?_
    refine aw_aret dT_visibleDescriptor_43 rfl (Or.inl rfl) ?_
    exact hnone hrn
  intro n
  induction n with
  | zero => exact fun l x3 hch hc hdr => root l x3 hc hch hdr
  | succ n ih =>
    intro l x3 hch hc hdr
    have hLD := hch.1
    rcases hc with hc | ⟨hl, hcc⟩
    · rcases hdr with ⟨_, e⟩ | ⟨e, _⟩
      · exact root l x3 hc hLD e
      · exact absurd e (by omega)
    · have hl1 := hl.1
      have hl8 := hl.2.2.1
      have hNN : ((t.1 8 l).toNat : Int) = t.1 8 l := by omega
      have hch2 : st_ch G J t y n (t.1 7 l) := by
        rcases hch.2 with e | e
        · omega
        · exact e
      refine aw_aload_n dT_visibleDescriptor_2 rfl ?_
      refine aw_ifnull (tgt := 42) (r := some (yLo y l)) dT_visibleDescriptor_3 (by decide) (fun z => absurd z (by simp)) (fun _ => ?_)
      refine aw_aload_n dT_visibleDescriptor_6 rfl ?_
      refine aw_iload_n dT_visibleDescriptor_7 rfl ?_
      refine aw_callVN1 (mc' := 0) (ms' := 0) (kc' := kc) (ks' := ks) dT_visibleDescriptor_8 cT_357 hLD.1 (Nat.le_of_ble_eq_true rfl) (Nat.le_of_ble_eq_true rfl) (by omega) (by omega) ?_
      refine sp_LdescOf hLD.2.1 (by omega) hLD.1 hp (fun i k c q1 q2 q3 q4 q5 q6 hc6 => ?_) (fun hno2 => ?_)
      · have hdl : mo_dl t l p (t.1 4 (8 * (10 + 4 * l + i) + 2 * k + 1)) := ⟨i, k, ⟨q1, by omega⟩, fun j p1 p2 k' p3 p4 => q3 j p1 p2 k' p3 p4, ⟨q4, q5⟩, rfl, q6⟩
        have hre : r = some (l, t.1 4 (8 * (10 + 4 * l + i) + 2 * k + 1)) := by
          rcases hdr with ⟨e, _⟩ | ⟨_, ⟨w, hw, e⟩ | ⟨hnd, _⟩⟩
          · omega
          · rw [e, mo_dl_u hl hw hdl]
          · exact (mo_dl_n hdl hnd).elim
        have hv0 := mo_dl_b hl hdl
        have hv1 := hnr _ _ hre
        have hc6 : J c = some (.inr (2, [.int (iI (t.1 4 (8 * (10 + 4 * l + i) + 2 * k))), .int (iI (t.1 4 (8 * (10 + 4 * l + i) + 2 * k + 1)))])) := hc6
        generalize hv : t.1 4 (8 * (10 + 4 * l + i) + 2 * k + 1) = v at hdl hre hv0 hv1 hc6
        have hdr1 := hdr0
        rw [hre] at hdr1
        refine aw_astore_n dT_visibleDescriptor_11 (by decide) rfl ?_
        refine aw_aload_n dT_visibleDescriptor_12 rfl ?_
        refine aw_ifnull (tgt := 34) (r := some c) dT_visibleDescriptor_13 (by decide) (fun z => absurd z (by simp)) (fun _ => ?_)
        refine aw_aload_n dT_visibleDescriptor_16 rfl ?_
        refine aw_aload_n dT_visibleDescriptor_17 rfl ?_
        refine aw_aload_n dT_visibleDescriptor_18 rfl ?_
        refine aw_get dT_visibleDescriptor_19 fT_261 hc6 rfl ?_
        refine aw_callS3 (mc' := 0) (ms' := 0) (kc' := kc) (ks' := ks) dT_visibleDescriptor_22 cT_361 (Nat.le_of_ble_eq_true rfl) (Nat.le_of_ble_eq_true rfl) (by omega) (by omega) rfl ?_
        refine sp_let (n := n0) (p := p) (v := v) ⟨hv0, hv1⟩ hLD hl1 hdl hch0 hc0 hdr1 (fun hs => ?_) (fun hs => ?_)
        · refine ai_if_eq (tgt := 32) dT_visibleDescriptor_25 (by decide) (by decide) (fun z => absurd z (by decide)) (fun _ => ?_)
          refine aw_aload_n dT_visibleDescriptor_28 rfl ?_
          refine aw_goto (tgt := 33) dT_visibleDescriptor_29 (by decide) ?_
          refine aw_aret dT_visibleDescriptor_33 rfl (Or.inr ⟨_, rfl⟩) ?_
          exact hok l v c hre hs ⟨_, hc6⟩
        · refine ai_if_eq (tgt := 32) dT_visibleDescriptor_25 (by decide) (by decide) (fun _ => ?_) (fun z => absurd rfl z)
          refine aw_null dT_visibleDescriptor_32 ?_
          refine aw_aret dT_visibleDescriptor_33 rfl (Or.inl rfl) ?_
          exact hno l v hre hs
      · have hnd : mo_ndl t l p := fun i p1 p2 k p3 p4 => hno2 i p1 (by omega) k p3 p4
        refine aw_astore_nN dT_visibleDescriptor_11 (by decide) rfl ?_
        refine aw_aload_nN dT_visibleDescriptor_12 rfl ?_
        refine aw_ifnull (tgt := 34) (r := none) dT_visibleDescriptor_13 (by decide) (fun _ => ?_) (fun z => absurd rfl z)
        refine aw_aload_n dT_visibleDescriptor_34 rfl ?_
        refine aw_get dT_visibleDescriptor_35 fT_210 hLD.1 rfl ?_
        rw [show st_pa y t l = some (yLo y (t.1 7 l)) from if_neg (by omega)]
        refine aw_astore_n dT_visibleDescriptor_38 (by decide) rfl ?_
        refine aw_goto (tgt := 2) dT_visibleDescriptor_39 (by decide) ?_
        rcases hdr with ⟨e, _⟩ | ⟨_, ⟨w, hw, e⟩ | ⟨_, hdr⟩⟩
        · omega
        · exact (mo_dl_n hw hnd).elim
        · exact ih (t.1 7 l) _ hch2 hcc hdr
theorem sp_vis {t : mo_T} {y : st_Y} {p f0 : Int} {n0 : Nat} {r : Option (Int × Int)} (hp : iB p) (hr0 : t.1 8 0 = 0) (hgb : ∀ k i, iB (t.1 k i)) (hnr : ∀ o v, r = some (o, v) → v ≤ 63) (hch0 : st_ch G J t y n0 f0) (hc0 : mo_chn t n0 f0) (hdr0 : mo_dr t p n0 f0 r) (hnone : r = none → Q (.inl (some .null)) J) (hno : ∀ o v, r = some (o, v) → ¬ (v < 8 ∨ mo_lt t p v n0 f0) → Q (.inl (some .null)) J) (hok : ∀ o v c, r = some (o, v) → (v < 8 ∨ mo_lt t p v n0 f0) → (∃ w, J c = some (.inr (2, [w, .int (iI v)]))) → Q (.inl (some (.ref c))) J) : aw_W G mT_visibleDescriptor (d + 1 + 1 + 1) Q 0 [some (.ref (yLo y f0)), some (.int (iI p)), none, none] [] J kc ks := by
  refine aw_aload_n dT_visibleDescriptor_0 rfl ?_
  refine aw_astore_n dT_visibleDescriptor_1 (by decide) rfl ?_
  exact sp_vis_l hp hr0 hgb hnr hch0 hc0 hdr0 hnone hno hok n0 f0 _ hch0 hc0 hdr0
end ST15
