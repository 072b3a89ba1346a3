/-! loaders in the heap; isLetThrough, visibleDescriptor -/
section ST14
variable {G : aw_G} {d : Nat} {Q : aw_O → aw_J → Prop} {J : aw_J} {kc ks : Nat}
/-- where loaders and sheets lie: loader, contents, filter, holders, count of definitions; archive, its two rows, their cells -/
abbrev st_Y : Type := (Int → Nat) × (Int → Nat) × (Int → Option Nat) × (Int → Int) × (Int → Int) × (Int → Nat) × (Int → Nat) × (Int → Nat) × (Int → Nat → Option Nat) × (Int → Nat → Option Nat)
abbrev yLo (y : st_Y) : Int → Nat := y.1
abbrev yCa (y : st_Y) : Int → Nat := y.2.1
abbrev yRf (y : st_Y) : Int → Option Nat := y.2.2.1
abbrev yHo (y : st_Y) : Int → Int := y.2.2.2.1
abbrev yDc (y : st_Y) : Int → Int := y.2.2.2.2.1
abbrev yA (y : st_Y) : Int → Nat := y.2.2.2.2.2.1
abbrev yFA (y : st_Y) : Int → Nat := y.2.2.2.2.2.2.1
abbrev yDA (y : st_Y) : Int → Nat := y.2.2.2.2.2.2.2.1
abbrev yCF (y : st_Y) : Int → Nat → Option Nat := y.2.2.2.2.2.2.2.2.1
abbrev yCD (y : st_Y) : Int → Nat → Option Nat := y.2.2.2.2.2.2.2.2.2
def st_pa (y : st_Y) (t : mo_T) (l : Int) : Option Nat := if l = 0 then none else some (yLo y (t.1 7 l))
/-- the loader l of t lies in the heap as y says -/
def st_LD (G : aw_G) (J : aw_J) (t : mo_T) (y : st_Y) (l : Int) : Prop := st_L J (yLo y l) l (t.1 6 l) (st_pa y t l) (yCa y l) (yRf y l) (yHo y l) (yDc y l) 0 ∧ st_CO G J (yCa y l) (t.1 8 l).toNat (fun i => yA y (10 + 4 * l + i)) (fun i => yFA y (10 + 4 * l + i)) (fun i => yDA y (10 + 4 * l + i)) (fun i => yCF y (10 + 4 * l + i)) (fun i => yCD y (10 + 4 * l + i)) (fun i => t.1 1 (10 + 4 * l + i)) (fun i => t.1 3 (10 + 4 * l + i)) (fun i k => (t.1 2 (24 * (10 + 4 * l + i) + 3 * k), t.1 2 (24 * (10 + 4 * l + i) + 3 * k + 1), t.1 2 (24 * (10 + 4 * l + i) + 3 * k + 2))) (fun i k => (t.1 4 (8 * (10 + 4 * l + i) + 2 * k), t.1 4 (8 * (10 + 4 * l + i) + 2 * k + 1))) ∧ (t.1 6 l = 2 → ∃ fa, yRf y l = some fa ∧ J fa = some (.inr (3, [.int (iI (t.1 9 l)), .long (t.2 10 l), .long (t.2 11 l)]))) ∧ (¬ t.1 6 l = 2 → yRf y l = none)
/-- all loaders from l up do -/
def st_ch (G : aw_G) (J : aw_J) (t : mo_T) (y : st_Y) : Nat → Int → Prop
  | 0, l => st_LD G J t y l
  | n + 1, l => st_LD G J t y l ∧ (l = 0 ∨ st_ch G J t y n (t.1 7 l))
theorem st_LD.inj {t : mo_T} {y : st_Y} {l k : Int} (h : st_LD G J t y l) (h' : st_LD G J t y k) (hl : iB l) (hk : iB k) (e : yLo y l = yLo y k) : l = k := by
  have h1 := h.1
  have h2 := h'.1
  unfold st_L at h1 h2
  rw [e, h2] at h1
  injection h1 with h1
  injection h1 with h1
  injection h1 with _ h1
  injection h1 with h1 _
  injection h1 with h1
  exact ((iI_eq hk hl).mp h1).symm
theorem sp_let_l {t : mo_T} {y : st_Y} {p m o v : Int} {x0 : Option Value} (hm : 8 ≤ m ∧ m ≤ 63) (hLo : st_LD G J t y o) (hob : 1 ≤ o ∧ o ≤ 40) (hdo : mo_dl t o p v) : ∀ (n : Nat) (l : Int), st_ch G J t y n l → mo_chn t n l → mo_dr t p n l (some (o, v)) → (mo_lt t p m n l → Q (.inl (some (.int (iI 1)))) J) → (¬ mo_lt t p m n l → Q (.inl (some (.int (iI 0)))) J) → aw_W G mT_isLetThrough (d + 1) Q 10 [x0, some (.ref (yLo y o)), some (.int (iI m)), some (.ref (yLo y l))] [] J kc ks := by
  intro n
  induction n with
  | zero => exact fun l _ _ h => by cases h
  | succ n ih =>
    intro l hch hc hdr h1 h0
    have hLD := hch.1
    rcases hc with hc | ⟨hl, hcc⟩
    · rcases hdr with ⟨_, e⟩ | ⟨e, _⟩
      · cases e
      · exact absurd e (by omega)
    · have hl1 := hl.1
      have hch2 : st_ch G J t y n (t.1 7 l) := by
        rcases hch.2 with e | e
        · omega
        · exact e
      by_cases hlo : l = o
      · subst hlo
        have hq := h1 (Or.inr (Or.inl (fun z => mo_dl_n hdo z)))
        refine aw_aload_n dT_isLetThrough_10 rfl ?_
        refine aw_ifnull (tgt := 47) (r := some (yLo y l)) dT_isLetThrough_11 (by decide) (fun hb11 => absurd hb11 (by simp)) (fun _ => ?_)
        first | refine aw_aload_n dT_isLetThrough_14 rfl ?_ | refine aw_aload_nQ dT_isLetThrough_14 rfl ?_ | refine aw_aload_nN dT_isLetThrough_14 rfl ?_
        first | refine aw_aload_n dT_isLetThrough_15 rfl ?_ | refine aw_aload_nQ dT_isLetThrough_15 rfl ?_ | refine aw_aload_nN dT_isLetThrough_15 rfl ?_
        refine aw_acmp_eq (tgt := 47) (x := some (yLo y l)) (y := some (yLo y l)) dT_isLetThrough_16 (by decide) (fun _ => ?_) (fun z => absurd rfl z)
        refine ai_iconst dT_isLetThrough_47 ?_
        refine aw_zret dT_isLetThrough_48 rfl (by decide +kernel) ?_
        exact hq
      · rcases hdr with ⟨e, _⟩ | ⟨_, ⟨w, hw, e⟩ | ⟨hnd, hdr⟩⟩
        · omega
        · cases e
          exact absurd rfl hlo
        · have hj := 0
          refine aw_aload_n dT_isLetThrough_10 rfl ?_
          refine aw_ifnull (tgt := 47) (r := some (yLo y l)) dT_isLetThrough_11 (by decide) (fun hb11 => absurd hb11 (by simp)) (fun _ => ?_)
          first | refine aw_aload_n dT_isLetThrough_14 rfl ?_ | refine aw_aload_nQ dT_isLetThrough_14 rfl ?_ | refine aw_aload_nN dT_isLetThrough_14 rfl ?_
          first | refine aw_aload_n dT_isLetThrough_15 rfl ?_ | refine aw_aload_nQ dT_isLetThrough_15 rfl ?_ | refine aw_aload_nN dT_isLetThrough_15 rfl ?_
          refine aw_acmp_eq (tgt := 47) (x := some (yLo y l)) (y := some (yLo y o)) dT_isLetThrough_16 (by decide) (fun hb16 => ?_) (fun hb16 => ?_)
          · refine ai_iconst dT_isLetThrough_47 ?_
            refine aw_zret dT_isLetThrough_48 rfl (by decide +kernel) ?_
            exact absurd (hLD.inj hLo (by omega) (by omega) (Option.some.inj hb16)) hlo
          · first | refine aw_aload_n dT_isLetThrough_19 rfl ?_ | refine aw_aload_nQ dT_isLetThrough_19 rfl ?_ | refine aw_aload_nN dT_isLetThrough_19 rfl ?_
            refine aw_get dT_isLetThrough_20 fT_301 hLD.1 rfl ?_
            refine aw_ifnull (tgt := 39) (r := yRf y l) dT_isLetThrough_23 (by decide) (fun hb23 => ?_) (fun hb23 => ?_)
            · first | refine aw_aload_n dT_isLetThrough_39 rfl ?_ | refine aw_aload_nQ dT_isLetThrough_39 rfl ?_ | refine aw_aload_nN dT_isLetThrough_39 rfl ?_
              refine aw_get dT_isLetThrough_40 fT_210 hLD.1 rfl ?_
              have hpl : st_pa y t l = some (yLo y (t.1 7 l)) := if_neg (by omega)
              rw [hpl]
              first | refine aw_astore_n dT_isLetThrough_43 (by decide) rfl ?_ | refine aw_astore_nQ dT_isLetThrough_43 (by decide) rfl ?_ | refine aw_astore_nN dT_isLetThrough_43 (by decide) rfl ?_
              refine aw_goto (tgt := 10) dT_isLetThrough_44 (by decide) ?_
              refine ih (t.1 7 l) hch2 hcc hdr (fun z => h1 (Or.inr (Or.inr ⟨hnd, fun k2 => ?_, z⟩))) (fun z => h0 (fun q => ?_))
              · first
                  | exact ha
                  | exact absurd (hLD.2.2.1 k2) (fun ⟨fa, e, _⟩ => by rw [hb23] at e; cases e)
              · rcases q with q | q | ⟨_, _, q⟩
                · omega
                · exact q hnd
                · exact z q
            · have hk2 : t.1 6 l = 2 := by
                by_cases z : t.1 6 l = 2
                · exact z
                · exact absurd (hLD.2.2.2 z) hb23
              obtain ⟨fa, hfa, hff⟩ := hLD.2.2.1 hk2
              first | refine aw_aload_n dT_isLetThrough_26 rfl ?_ | refine aw_aload_nQ dT_isLetThrough_26 rfl ?_ | refine aw_aload_nN dT_isLetThrough_26 rfl ?_
              refine aw_get dT_isLetThrough_27 fT_301 hLD.1 rfl ?_
              rw [hfa]
              refine aw_iload_n dT_isLetThrough_30 rfl ?_
              refine aw_callVN1 (mc' := 0) (ms' := 0) (kc' := kc) (ks' := ks) dT_isLetThrough_31 cT_321 hff (Nat.le_of_ble_eq_true rfl) (Nat.le_of_ble_eq_true rfl) (by omega) (by omega) ?_
              refine sp_admits (by omega) hff (fun ha => ?_) (fun ha => ?_)
              · refine ai_if_ne (tgt := 39) dT_isLetThrough_34 (by decide) (by omega) (fun _ => ?_) (fun hb34 => absurd hb34 (by decide))
                first | refine aw_aload_n dT_isLetThrough_39 rfl ?_ | refine aw_aload_nQ dT_isLetThrough_39 rfl ?_ | refine aw_aload_nN dT_isLetThrough_39 rfl ?_
                refine aw_get dT_isLetThrough_40 fT_210 hLD.1 rfl ?_
                have hpl : st_pa y t l = some (yLo y (t.1 7 l)) := if_neg (by omega)
                rw [hpl]
                first | refine aw_astore_n dT_isLetThrough_43 (by decide) rfl ?_ | refine aw_astore_nQ dT_isLetThrough_43 (by decide) rfl ?_ | refine aw_astore_nN dT_isLetThrough_43 (by decide) rfl ?_
                refine aw_goto (tgt := 10) dT_isLetThrough_44 (by decide) ?_
                refine ih (t.1 7 l) hch2 hcc hdr (fun z => h1 (Or.inr (Or.inr ⟨hnd, fun k2 => ?_, z⟩))) (fun z => h0 (fun q => ?_))
                · first
                    | exact ha
                    | exact absurd (hLD.2.2.1 k2) (fun ⟨fa, e, _⟩ => by rw [hb23] at e; cases e)
                · rcases q with q | q | ⟨_, _, q⟩
                  · omega
                  · exact q hnd
                  · exact z q
              · refine ai_if_ne (tgt := 39) dT_isLetThrough_34 (by decide) (by omega) (fun hb34 => absurd hb34 (by decide)) (fun _ => ?_)
                refine ai_iconst dT_isLetThrough_37 ?_
                refine aw_zret dT_isLetThrough_38 rfl (by decide +kernel) ?_
                exact h0 (fun q => by
                  rcases q with q | q | ⟨_, q, _⟩
                  · omega
                  · exact q hnd
                  · exact ha (q hk2))
theorem sp_let {t : mo_T} {y : st_Y} {p m o v l : Int} {n : Nat} (hm : 0 ≤ m ∧ m ≤ 63) (hLo : st_LD G J t y o) (hob : 1 ≤ o ∧ o ≤ 40) (hdo : mo_dl t o p v) (hch : st_ch G J t y n l) (hc : mo_chn t n l) (hdr : mo_dr t p n l (some (o, v))) (h1 : (m < 8 ∨ mo_lt t p m n l) → Q (.inl (some (.int (iI 1)))) J) (h0 : ¬ (m < 8 ∨ mo_lt t p m n l) → Q (.inl (some (.int (iI 0)))) J) : aw_W G mT_isLetThrough (d + 1) Q 0 [some (.ref (yLo y l)), some (.ref (yLo y o)), some (.int (iI m)), none] [] J kc ks := by
  refine aw_iload_n dT_isLetThrough_0 rfl ?_
  refine ai_bipush dT_isLetThrough_1 (by decide +kernel) ?_
  refine ai_icmp_ge (tgt := 8) dT_isLetThrough_3 (by decide) (by omega) (by omega) (fun hb3 => ?_) (fun hb3 => ?_)
  · refine aw_aload_n dT_isLetThrough_8 rfl ?_
    refine aw_astore_n dT_isLetThrough_9 (by decide) rfl ?_
    exact sp_let_l (by omega) hLo hob hdo n l hch hc hdr (fun z => h1 (Or.inr z)) (fun z => h0 (fun q => q.elim (fun e => by omega) z))
  · refine ai_iconst dT_isLetThrough_6 ?_
    refine aw_zret dT_isLetThrough_7 rfl (by decide +kernel) ?_
    exact h1 (Or.inl (by omega))

end ST14
