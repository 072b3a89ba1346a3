/-! the reference: resolve, its two loops -/
section MO9
variable {G : aw_G} {b : Nat} {ad : Nat → Nat} {d : Nat} {Q : aw_O → mo_S → Prop} {s : mo_S} {kc ks : Nat}
theorem mo_wt_g {W : mo_WL} {p q : Int → Int} (h : mo_wt W p q) {j : Int} (h0 : 0 ≤ j) (h1 : j < W.length) : ∃ w, W[j.toNat]? = some w ∧ p j = w.1 ∧ q j = w.2 ∧ 0 ≤ w.2 ∧ w.2 ≤ 4173 := by
  have e : j.toNat < W.length := by omega
  have e2 : ((j.toNat : Nat) : Int) = j := by omega
  have := h j.toNat W[j.toNat] (List.getElem?_eq_getElem e)
  rw [e2] at this
  exact ⟨_, List.getElem?_eq_getElem e, this⟩
theorem mo_iw_of {t : mo_T} {W : mo_WL} {p q : Int → Int} (h : mo_wt W p q) {l m j : Int} (h0 : 0 ≤ j) (h1 : j < W.length) (hp : p j = l) (hq : t.1 2 (q j) = m) : mo_iw t W l m := by
  obtain ⟨w, e1, e2, e3, _⟩ := mo_wt_g h h0 h1
  exact ⟨_, w, e1, e2.symm.trans hp, by rw [← e3]; exact hq⟩
theorem mo_iw_no {t : mo_T} {W : mo_WL} {p q : Int → Int} (h : mo_wt W p q) {l m : Int} (hn : ∀ j, 0 ≤ j → j < (W.length : Int) → ¬ (p j = l ∧ t.1 2 (q j) = m)) : ¬ mo_iw t W l m := by
  intro ⟨i, w, e1, e2, e3⟩
  have hi : i < W.length := by
    by_cases e : i < W.length
    · exact e
    · rw [List.getElem?_eq_none (by omega)] at e1
      cases e1
  have := h i w e1
  exact hn i (by omega) (by omega) ⟨this.1.trans e2, by rw [this.2.1]; exact e3⟩
theorem mo_fl_n {t : mo_T} {l m f : Int} (hl : mo_ldr t l) (h : mo_fl t l m f) : (0 ≤ t.1 2 (f + 1) ∧ t.1 2 (f + 1) ≤ 63) ∧ t.1 2 f = m := by
  obtain ⟨i, k, h1, h2, h3, h4, h5⟩ := h
  subst h4
  exact ⟨(hl.2.2.2.2.2 i h1.1 h1.2 k h3.1 h3.2).2, h5⟩
theorem mo_kn_r {t : mo_T} {N l m c : Int} (hku : mo_ku t N) (hl : 0 ≤ l) (h : mo_lm (fun j => 8 ≤ j ∧ t.1 26 j = l ∧ t.1 25 j = m) (fun k => k) N c) : (c = -1 ∧ ∀ c', ¬ mo_kn t N l m c') ∨ (mo_kn t N l m c ∧ ∀ c', mo_kn t N l m c' → c = c') := by
  rcases h with ⟨e, h⟩ | ⟨k, e, h1, h2, h3, h4⟩
  · exact Or.inl ⟨e, fun c' h' => h c' (by have := h'.1; omega) h'.2.1 ⟨h'.1, h'.2.2⟩⟩
  · have e : c = k := e
    subst e
    have hk : mo_kn t N l m c := ⟨h3.1, h2, h3.2⟩
    exact Or.inr ⟨hk, fun c' h' => hku l m c c' hl hk h'⟩
theorem mo_res_s {l0 m0 l m x y : Int} {n : Nat} {W : mo_WL} {x7 : Option Value} {p q : Int → Int} {r : Int × mo_WL} {go : Int → Int → Int × mo_WL → Prop} (hku : mo_ku s.2 (s.1 24)) (h24 : 8 ≤ s.1 24 ∧ s.1 24 ≤ 120) (hN : W.length ≤ 8) (hc : mo_chn s.2 n l) (hm : 0 ≤ m ∧ m ≤ 63) (hp : mo_pst s.2 (s.1 24) n W l m go r) (hw : mo_wt W p q) (hneg : r.1 < 0 → ∀ x y p q, Q (.inl (some (.int (iI r.1)))) (mo_ff (mo_wq s p q) x y)) (hpos : 0 ≤ r.1 → r.2 = [] → ∀ {ty : Int}, ty = r.1 → ∀ x y m' l' x7, mw G b ad mM_resolve (d + 1 + 1) Q 175 [some (.ref b), some (.int (iI l0)), some (.int (iI m0)), some (.int (iI W.length)), some (.int (iI m')), some (.int (iI l')), some (.int (iI ty)), x7] [] (mo_ff (mo_wq s p q) x y) kc ks) (hgo : ∀ l' f, mo_chn s.2 n l' → mo_ldr s.2 l' → mo_fl s.2 l' m f → go l' f r → (W.length = 8 → r = (-2, [])) ∧ (W.length < 8 → ∀ x7, mw G b ad mM_resolve (d + 1 + 1) Q 11 [some (.ref b), some (.int (iI l0)), some (.int (iI m0)), some (.int (iI (W.length + 1))), some (.int (iI (s.2.1 2 (f + 1)))), some (.int (iI l')), some (.int (iI (-1))), x7] [] (mo_ff (mo_wq s (mo_up1 p W.length l') (mo_up1 q W.length f)) l' f) kc ks)) : mw G b ad mM_resolve (d + 1 + 1) Q 11 [some (.ref b), some (.int (iI l0)), some (.int (iI m0)), some (.int (iI W.length)), some (.int (iI m)), some (.int (iI l)), some (.int (iI (-1))), x7] [] (mo_ff (mo_wq s p q) x y) kc ks := by
  have hc1 : mo_chn (mo_wq s p q).2 n l := by rw [← mo_chn_cg (mo_wq_q s p q) n]; exact hc
  refine mw_iload dM_resolve_11 rfl ?_
  refine mw_if_ge (tgt := 175) dM_resolve_13 (by decide) (by first | omega | (simp only [mo_uz_1, mo_uz_2, mo_uf_1, mo_uf_2, mo_uf_22, mo_ug_1, mo_ug_2, mo_ug_22, mo_len, Nat.reduceEqDiff, false_and, true_and, and_true, and_false, if_false, if_true, reduceIte, ite_true, ite_false, ne_eq, not_true_eq_false, not_false_eq_true, mo_ff_l, mo_ff_f, mo_ff_2, mo_ff_12, mo_ff_24, mo_wq_1, mo_wq_31, mo_wq_32, mo_wq_2] at *; omega)) (fun hb13 => absurd hb13 (by omega)) (fun hb13 => ?_)
  refine mw_iload dM_resolve_16 rfl ?_
  refine mw_bipush dM_resolve_18 (by decide +kernel) ?_
  refine mw_icmp_ge (tgt := 30) dM_resolve_20 (by decide) (by first | omega | (simp only [mo_uz_1, mo_uz_2, mo_uf_1, mo_uf_2, mo_uf_22, mo_ug_1, mo_ug_2, mo_ug_22, mo_len, Nat.reduceEqDiff, false_and, true_and, and_true, and_false, if_false, if_true, reduceIte, ite_true, ite_false, ne_eq, not_true_eq_false, not_false_eq_true, mo_ff_l, mo_ff_f, mo_ff_2, mo_ff_12, mo_ff_24, mo_wq_1, mo_wq_31, mo_wq_32, mo_wq_2] at *; omega)) (by first | omega | (simp only [mo_uz_1, mo_uz_2, mo_uf_1, mo_uf_2, mo_uf_22, mo_ug_1, mo_ug_2, mo_ug_22, mo_len, Nat.reduceEqDiff, false_and, true_and, and_true, and_false, if_false, if_true, reduceIte, ite_true, ite_false, ne_eq, not_true_eq_false, not_false_eq_true, mo_ff_l, mo_ff_f, mo_ff_2, mo_ff_12, mo_ff_24, mo_wq_1, mo_wq_31, mo_wq_32, mo_wq_2] at *; omega)) (fun hb20 => ?_) (fun hb20 => ?_)
  · refine mw_aload_n dM_resolve_30 rfl ?_
    refine mw_iload dM_resolve_31 rfl ?_
    refine mw_iload dM_resolve_33 rfl ?_
    refine mw_callV2 dM_resolve_35 cM_166 (Nat.le_of_ble_eq_true rfl) (Nat.le_of_ble_eq_true rfl) rfl ?_
    rcases hp with ⟨e, _⟩ | ⟨_, hsr, hre⟩ | ⟨l', f, _, hsr, hp⟩
    · omega
    · have hs1 : mo_sr (mo_wq s p q).2 m n l none := by rw [← mo_sr_cg (mo_wq_q s p q) m n]; exact hsr
      refine mo_seek (n := n) (r := none) (by first | omega | (simp only [mo_uz_1, mo_uz_2, mo_uf_1, mo_uf_2, mo_uf_22, mo_ug_1, mo_ug_2, mo_ug_22, mo_len, Nat.reduceEqDiff, false_and, true_and, and_true, and_false, if_false, if_true, reduceIte, ite_true, ite_false, ne_eq, not_true_eq_false, not_false_eq_true, mo_ff_l, mo_ff_f, mo_ff_2, mo_ff_12, mo_ff_24, mo_wq_1, mo_wq_31, mo_wq_32, mo_wq_2] at *; omega)) hc1 hs1 (fun _ x1 y1 => ?_) (fun _ _ e => nomatch e)
      rw [mo_ff_ff]
      refine mw_if_ne (tgt := 52) dM_resolve_38 (by decide) (by first | omega | (simp only [mo_uz_1, mo_uz_2, mo_uf_1, mo_uf_2, mo_uf_22, mo_ug_1, mo_ug_2, mo_ug_22, mo_len, Nat.reduceEqDiff, false_and, true_and, and_true, and_false, if_false, if_true, reduceIte, ite_true, ite_false, ne_eq, not_true_eq_false, not_false_eq_true, mo_ff_l, mo_ff_f, mo_ff_2, mo_ff_12, mo_ff_24, mo_wq_1, mo_wq_31, mo_wq_32, mo_wq_2] at *; omega)) (fun hb38 => absurd hb38 (by decide)) (fun _ => ?_)
      refine mw_iload_n dM_resolve_41 rfl ?_
      refine mw_if_ne (tgt := 49) dM_resolve_42 (by decide) (by first | omega | (simp only [mo_uz_1, mo_uz_2, mo_uf_1, mo_uf_2, mo_uf_22, mo_ug_1, mo_ug_2, mo_ug_22, mo_len, Nat.reduceEqDiff, false_and, true_and, and_true, and_false, if_false, if_true, reduceIte, ite_true, ite_false, ne_eq, not_true_eq_false, not_false_eq_true, mo_ff_l, mo_ff_f, mo_ff_2, mo_ff_12, mo_ff_24, mo_wq_1, mo_wq_31, mo_wq_32, mo_wq_2] at *; omega)) (fun hb42 => ?_) (fun hb42 => ?_)
      · refine mw_bipush dM_resolve_49 (by decide +kernel) ?_
        refine mw_iret dM_resolve_51 rfl ?_
        have := hneg (by rw [hre]; show (if W.length = 0 then (-1 : Int) else -2) < 0; split <;> decide) x1 y1 p q
        rw [hre] at this
        first
          | (have e : W.length = 0 := by omega
             rw [if_pos e] at this; exact this)
          | (have e : ¬ W.length = 0 := by omega
             rw [if_neg e] at this; exact this)
      · refine mw_iconst dM_resolve_45 ?_
        refine mw_goto (tgt := 51) dM_resolve_46 (by decide) ?_
        refine mw_iret dM_resolve_51 rfl ?_
        have := hneg (by rw [hre]; show (if W.length = 0 then (-1 : Int) else -2) < 0; split <;> decide) x1 y1 p q
        rw [hre] at this
        first
          | (have e : W.length = 0 := by omega
             rw [if_pos e] at this; exact this)
          | (have e : ¬ W.length = 0 := by omega
             rw [if_neg e] at this; exact this)
    · have hs1 : mo_sr (mo_wq s p q).2 m n l (some (l', f)) := by rw [← mo_sr_cg (mo_wq_q s p q) m n]; exact hsr
      obtain ⟨hc2, hl2, hf2⟩ := mo_sr_c n l hc hsr
      have hl3 := hl2.1
      have hf3 := mo_fl_b hl2 hf2
      refine mo_seek (n := n) (r := some (l', f)) (by first | omega | (simp only [mo_uz_1, mo_uz_2, mo_uf_1, mo_uf_2, mo_uf_22, mo_ug_1, mo_ug_2, mo_ug_22, mo_len, Nat.reduceEqDiff, false_and, true_and, and_true, and_false, if_false, if_true, reduceIte, ite_true, ite_false, ne_eq, not_true_eq_false, not_false_eq_true, mo_ff_l, mo_ff_f, mo_ff_2, mo_ff_12, mo_ff_24, mo_wq_1, mo_wq_31, mo_wq_32, mo_wq_2] at *; omega)) hc1 hs1 (fun e _ _ => nomatch e) (fun l1 f1 e => ?_)
      cases e
      rw [mo_ff_ff]
      refine mw_if_ne (tgt := 52) dM_resolve_38 (by decide) (by first | omega | (simp only [mo_uz_1, mo_uz_2, mo_uf_1, mo_uf_2, mo_uf_22, mo_ug_1, mo_ug_2, mo_ug_22, mo_len, Nat.reduceEqDiff, false_and, true_and, and_true, and_false, if_false, if_true, reduceIte, ite_true, ite_false, ne_eq, not_true_eq_false, not_false_eq_true, mo_ff_l, mo_ff_f, mo_ff_2, mo_ff_12, mo_ff_24, mo_wq_1, mo_wq_31, mo_wq_32, mo_wq_2] at *; omega)) (fun _ => ?_) (fun hb38 => absurd hb38 (by decide))
      refine mw_aload_n dM_resolve_52 rfl ?_
      refine mw_aload_n dM_resolve_53 rfl ?_
      refine mw_getI dM_resolve_54 fM_163 rfl (fun hv54 => ?_)
      refine mw_iload dM_resolve_57 rfl ?_
      refine mw_callV2 dM_resolve_59 cM_169 (Nat.le_of_ble_eq_true rfl) (Nat.le_of_ble_eq_true rfl) rfl ?_
      refine mo_definedBy (by first | omega | (simp only [mo_uz_1, mo_uz_2, mo_uf_1, mo_uf_2, mo_uf_22, mo_ug_1, mo_ug_2, mo_ug_22, mo_len, Nat.reduceEqDiff, false_and, true_and, and_true, and_false, if_false, if_true, reduceIte, ite_true, ite_false, ne_eq, not_true_eq_false, not_false_eq_true, mo_ff_l, mo_ff_f, mo_ff_2, mo_ff_12, mo_ff_24, mo_wq_1, mo_wq_31, mo_wq_32, mo_wq_2] at *; omega)) (by first | omega | (simp only [mo_uz_1, mo_uz_2, mo_uf_1, mo_uf_2, mo_uf_22, mo_ug_1, mo_ug_2, mo_ug_22, mo_len, Nat.reduceEqDiff, false_and, true_and, and_true, and_false, if_false, if_true, reduceIte, ite_true, ite_false, ne_eq, not_true_eq_false, not_false_eq_true, mo_ff_l, mo_ff_f, mo_ff_2, mo_ff_12, mo_ff_24, mo_wq_1, mo_wq_31, mo_wq_32, mo_wq_2] at *; omega)) h24 (fun c hcl => ?_)
      have hcl : mo_lm (fun j => 8 ≤ j ∧ s.2.1 26 j = l' ∧ s.2.1 25 j = m) (fun k => k) (s.1 24) c := hcl
      have hcc : (0 ≤ c ∧ c ≤ 120 ∧ r = (c, [])) ∨ (c = -1 ∧ ((mo_iw s.2 W l' m ∧ r = (-2, [])) ∨ (¬ mo_iw s.2 W l' m ∧ go l' f r))) := by
        rcases mo_kn_r hku (by omega) hcl with ⟨q1, q2⟩ | ⟨q1, q2⟩
        · rcases hp with ⟨c', k1, _⟩ | ⟨_, k2⟩
          · exact absurd k1 (q2 c')
          · exact Or.inr ⟨q1, k2⟩
        · rcases hp with ⟨c', k1, k2⟩ | ⟨k1, _⟩
          · refine Or.inl ⟨by have := q1.1; omega, by have := q1.2.1; omega, ?_⟩
            rw [q2 c' k1]; exact k2
          · exact absurd q1 (k1 c)
      have hcb : iB c := by rcases hcc with g | g <;> omega
      refine mw_istore dM_resolve_62 (by decide) rfl ?_
      refine mw_iload dM_resolve_64 rfl ?_
      refine mw_if_lt (tgt := 72) dM_resolve_66 (by decide) (by first | omega | (simp only [mo_uz_1, mo_uz_2, mo_uf_1, mo_uf_2, mo_uf_22, mo_ug_1, mo_ug_2, mo_ug_22, mo_len, Nat.reduceEqDiff, false_and, true_and, and_true, and_false, if_false, if_true, reduceIte, ite_true, ite_false, ne_eq, not_true_eq_false, not_false_eq_true, mo_ff_l, mo_ff_f, mo_ff_2, mo_ff_12, mo_ff_24, mo_wq_1, mo_wq_31, mo_wq_32, mo_wq_2] at *; omega)) (fun hb66 => ?_) (fun hb66 => ?_)
      · refine mw_iconst dM_resolve_72 ?_
        refine mw_istore dM_resolve_73 (by decide) rfl ?_
        first
          | (exfalso; omega)
          | (rcases hcc with ⟨g1, g2, g3⟩ | ⟨g1, g2⟩
             · omega
             · subst g1
               refine mo_res_w (s := mo_ff (mo_wq s p q) l' f) (N := W.length) (by omega) (by omega) (fun j q1 q2 => ?_) (fun j q1 q2 q3 q4 => ?_) (fun k hall => ?_) 0 (by omega) (by decide) (fun j q1 q2 => absurd q2 (by omega))
               · obtain ⟨w, e1, e2, e3, e4⟩ := mo_wt_g hw q1 q2
                 show 0 ≤ q j ∧ q j ≤ 4173
                 omega
               · rcases g2 with ⟨_, e⟩ | ⟨e, _⟩
                 · have := hneg (by rw [e]; decide) l' f p q
                   rw [e] at this
                   exact this
                 · exact absurd (mo_iw_of hw q1 q2 q3 q4) e
               · rcases g2 with ⟨e, _⟩ | ⟨e, hg⟩
                 · exact absurd e (mo_iw_no hw hall)
                 · refine mo_res_p (by omega) (by omega) hf3 (fun e8 => ?_) (fun e8 => (hgo l' f hc2 hl2 hf2 hg).2 (by omega) _)
                   have e := (hgo l' f hc2 hl2 hf2 hg).1 (by omega)
                   have := hneg (by rw [e]; decide) l' f p q
                   rw [e] at this
                   exact this)
      · refine mw_goto (tgt := 11) dM_resolve_69 (by decide) ?_
        first
          | (rcases hcc with ⟨g1, g2, g3⟩ | ⟨g1, _⟩
             · refine mo_res_t g1 hcb (hpos (by rw [g3]; exact g1) (by rw [g3]) ?_ _ _ _ _ _)
               rw [g3]
             · omega)
          | (rcases hp with ⟨e, g3⟩ | ⟨e, _⟩ | ⟨_, _, e, _⟩
             · refine mo_res_t (by omega) (by omega) (hpos (by rw [g3]; exact hm.1) (by rw [g3]) ?_ _ _ _ _ _)
               rw [g3]
             · omega
             · omega)
  · refine mw_iload dM_resolve_23 rfl ?_
    refine mw_istore dM_resolve_25 (by decide) rfl ?_
    refine mw_goto (tgt := 64) dM_resolve_27 (by decide) ?_
    refine mw_iload dM_resolve_64 rfl ?_
    refine mw_if_lt (tgt := 72) dM_resolve_66 (by decide) (by first | omega | (simp only [mo_uz_1, mo_uz_2, mo_uf_1, mo_uf_2, mo_uf_22, mo_ug_1, mo_ug_2, mo_ug_22, mo_len, Nat.reduceEqDiff, false_and, true_and, and_true, and_false, if_false, if_true, reduceIte, ite_true, ite_false, ne_eq, not_true_eq_false, not_false_eq_true, mo_ff_l, mo_ff_f, mo_ff_2, mo_ff_12, mo_ff_24, mo_wq_1, mo_wq_31, mo_wq_32, mo_wq_2] at *; omega)) (fun hb66 => ?_) (fun hb66 => ?_)
    · refine mw_iconst dM_resolve_72 ?_
      refine mw_istore dM_resolve_73 (by decide) rfl ?_
      first
        | (exfalso; omega)
        | (rcases hcc with ⟨g1, g2, g3⟩ | ⟨g1, g2⟩
           · omega
           · subst g1
             refine mo_res_w (s := mo_ff (mo_wq s p q) l' f) (N := W.length) (by omega) (by omega) (fun j q1 q2 => ?_) (fun j q1 q2 q3 q4 => ?_) (fun k hall => ?_) 0 (by omega) (by decide) (fun j q1 q2 => absurd q2 (by omega))
             · obtain ⟨w, e1, e2, e3, e4⟩ := mo_wt_g hw q1 q2
               show 0 ≤ q j ∧ q j ≤ 4173
               omega
             · rcases g2 with ⟨_, e⟩ | ⟨e, _⟩
               · have := hneg (by rw [e]; decide) l' f p q
                 rw [e] at this
                 exact this
               · exact absurd (mo_iw_of hw q1 q2 q3 q4) e
             · rcases g2 with ⟨e, _⟩ | ⟨e, hg⟩
               · exact absurd e (mo_iw_no hw hall)
               · refine mo_res_p (by omega) (by omega) hf3 (fun e8 => ?_) (fun e8 => (hgo l' f hc2 hl2 hf2 hg).2 (by omega) _)
                 have e := (hgo l' f hc2 hl2 hf2 hg).1 (by omega)
                 have := hneg (by rw [e]; decide) l' f p q
                 rw [e] at this
                 exact this)
    · refine mw_goto (tgt := 11) dM_resolve_69 (by decide) ?_
      first
        | (rcases hcc with ⟨g1, g2, g3⟩ | ⟨g1, _⟩
           · refine mo_res_t g1 hcb (hpos (by rw [g3]; exact g1) (by rw [g3]) ?_ _ _ _ _ _)
             rw [g3]
           · omega)
        | (rcases hp with ⟨e, g3⟩ | ⟨e, _⟩ | ⟨_, _, e, _⟩
           · refine mo_res_t (by omega) (by omega) (hpos (by rw [g3]; exact hm.1) (by rw [g3]) ?_ _ _ _ _ _)
             rw [g3]
           · omega
           · omega)
theorem mo_res_l {l0 m0 : Int} {n : Nat} (hku : mo_ku s.2 (s.1 24)) (h24 : 8 ≤ s.1 24 ∧ s.1 24 ≤ 120) : ∀ (k : Nat) (W : mo_WL) (l m : Int) (r : Int × mo_WL) (x y : Int) (p q : Int → Int) (x7 : Option Value), W.length + k = 8 → mo_chn s.2 n l → 0 ≤ m ∧ m ≤ 63 → mo_ph s.2 (s.1 24) n k W l m r → mo_wt W p q → (r.1 < 0 → ∀ x y p q, Q (.inl (some (.int (iI r.1)))) (mo_ff (mo_wq s p q) x y)) → (0 ≤ r.1 → ∀ x y p q m' l' x7, mo_wt (W ++ r.2) p q → mw G b ad mM_resolve (d + 1 + 1) Q 175 [some (.ref b), some (.int (iI l0)), some (.int (iI m0)), some (.int (iI ((W ++ r.2).length : Nat))), some (.int (iI m')), some (.int (iI l')), some (.int (iI r.1)), x7] [] (mo_ff (mo_wq s p q) x y) kc ks) → mw G b ad mM_resolve (d + 1 + 1) Q 11 [some (.ref b), some (.int (iI l0)), some (.int (iI m0)), some (.int (iI W.length)), some (.int (iI m)), some (.int (iI l)), some (.int (iI (-1))), x7] [] (mo_ff (mo_wq s p q) x y) kc ks := by
  intro k
  induction k with
  | zero =>
    intro W l m r x y p q x7 hk hc hm hp hw hneg hpos
    refine mo_res_s hku h24 (by omega) hc hm hp hw hneg (fun h1 h2 ty h3 x y m' l' x7 => ?_) (fun l' f h1 h2 h3 h4 => ⟨fun _ => h4, fun h => absurd h (by omega)⟩)
    have := hpos h1 x y p q m' l' x7 (by rw [h2, List.append_nil]; exact hw)
    rw [h2, List.append_nil] at this
    rw [h3]
    exact this
  | succ k ih =>
    intro W l m r x y p q x7 hk hc hm hp hw hneg hpos
    refine mo_res_s hku h24 (by omega) hc hm hp hw hneg (fun h1 h2 ty h3 x y m' l' x7 => ?_) (fun l' f h1 h2 h3 h4 => ⟨fun h => absurd h (by omega), fun _ x7 => ?_⟩)
    · have := hpos h1 x y p q m' l' x7 (by rw [h2, List.append_nil]; exact hw)
      rw [h2, List.append_nil] at this
      rw [h3]
      exact this
    · obtain ⟨r', hr, e⟩ := h4
      subst e
      have e1 : W ++ (l', f) :: r'.2 = (W ++ [(l', f)]) ++ r'.2 := by rw [List.append_assoc]; rfl
      have hpos' : 0 ≤ r'.1 → ∀ x y p q m1 l1 x7, mo_wt (W ++ (l', f) :: r'.2) p q → mw G b ad mM_resolve (d + 1 + 1) Q 175 [some (.ref b), some (.int (iI l0)), some (.int (iI m0)), some (.int (iI ((W ++ (l', f) :: r'.2).length : Nat))), some (.int (iI m1)), some (.int (iI l1)), some (.int (iI r'.1)), x7] [] (mo_ff (mo_wq s p q) x y) kc ks := hpos
      rw [e1] at hpos'
      have e2 : ((W ++ [(l', f)]).length : Int) = (W.length : Int) + 1 := by
        rw [List.length_append]; rfl
      have := ih (W ++ [(l', f)]) l' (s.2.1 2 (f + 1)) r' l' f (mo_up1 p W.length l') (mo_up1 q W.length f) x7 (by rw [List.length_append]; show W.length + 1 + k = 8; omega) h1 (mo_fl_n h2 h3).1 hr (mo_wt_s hw (mo_fl_b h2 h3)) hneg hpos'
      rw [e2] at this
      exact this
/-- the class w, of the super ty, is defined -/
def mo_psh (s : mo_S) (w : Int × Int) (ty : Int) : mo_S := mo_uz (mo_uf (mo_uf (mo_uf (mo_uf s 25 (s.1 24) (s.2.1 2 w.2)) 26 (s.1 24) w.1) 27 (s.1 24) (s.2.1 2 (w.2 + 2))) 28 (s.1 24) ty) 24 (s.1 24 + 1)
def mo_dfn : mo_WL → mo_S → Int → mo_S × Int
  | [], s, ty => (s, ty)
  | w :: ws, s, ty => if s.1 24 = 120 then (s, -2) else mo_dfn ws (mo_psh s w ty) (s.1 24)
theorem mo_wq_uf (s : mo_S) (p q : Int → Int) (x y : Int) {k : Nat} (hk : k ≤ 30) (i v : Int) : mo_uf (mo_ff (mo_wq s p q) x y) k i v = mo_ff (mo_wq (mo_uf s k i v) p q) x y := by
  obtain ⟨z, g, h⟩ := s
  show (_, _, h) = (_, _, h)
  congr 2
  funext k' j
  show (if k' = k ∧ j = i then v else if k' = 31 then p j else if k' = 32 then q j else g k' j) = (if k' = 31 then p j else if k' = 32 then q j else if k' = k ∧ j = i then v else g k' j)
  by_cases e : k' = 31
  · rw [if_neg (fun z => absurd z.1 (by omega)), if_pos e, if_pos e]
  · by_cases e2 : k' = 32
    · rw [if_neg (fun z => absurd z.1 (by omega)), if_neg e, if_pos e2, if_neg e, if_pos e2]
    · rw [if_neg e, if_neg e2, if_neg e, if_neg e2]
theorem mo_wq_uz (s : mo_S) (p q : Int → Int) (x y : Int) {k : Nat} (h1 : k ≠ 29) (h2 : k ≠ 30) (v : Int) : mo_uz (mo_ff (mo_wq s p q) x y) k v = mo_ff (mo_wq (mo_uz s k v) p q) x y := by
  unfold mo_ff
  rw [mo_uz_cm _ (fun e => h2 e.symm), mo_uz_cm _ (fun e => h1 e.symm)]
  rfl
theorem mo_res_d {l0 m0 : Int} {W : mo_WL} {p q : Int → Int} {x y : Int} (hw : mo_wt W p q) {n3 n4 n5 : Int} : ∀ (k : Nat) (s1 : mo_S) (ty : Int), k ≤ W.length → 8 ≤ s1.1 24 ∧ s1.1 24 ≤ 120 → iB ty → (∀ x y, Q (.inl (some (.int (iI (mo_dfn (W.take k).reverse s1 ty).2)))) (mo_ff (mo_wq (mo_dfn (W.take k).reverse s1 ty).1 p q) x y)) → (k ≤ 8) → mw G b ad mM_resolve d Q 180 [some (.ref b), some (.int (iI l0)), some (.int (iI m0)), some (.int (iI n3)), some (.int (iI n4)), some (.int (iI n5)), some (.int (iI ty)), some (.int (iI ((k : Int) - 1)))] [] (mo_ff (mo_wq s1 p q) x y) kc ks := by
  intro k
  induction k with
  | zero =>
    intro s1 ty hk h24 hty hq h8
    refine mw_iload dM_resolve_180 rfl ?_
    refine mw_if_lt (tgt := 290) dM_resolve_182 (by decide) (by first | omega | (simp only [mo_uz_1, mo_uz_2, mo_uf_1, mo_uf_2, mo_uf_22, mo_ug_1, mo_ug_2, mo_ug_22, mo_len, Nat.reduceEqDiff, false_and, true_and, and_true, and_false, if_false, if_true, reduceIte, ite_true, ite_false, ne_eq, not_true_eq_false, not_false_eq_true, mo_ff_l, mo_ff_f, mo_ff_2, mo_ff_12, mo_ff_24, mo_wq_1, mo_wq_31, mo_wq_32, mo_wq_2] at *; omega)) (fun hb182 => ?_) (fun hb182 => absurd hb182 (by omega))
    refine mw_iload dM_resolve_290 rfl ?_
    refine mw_iret dM_resolve_292 rfl ?_
    exact hq x y
  | succ k ih =>
    intro s1 ty hk h24 hty hq h8
    obtain ⟨w, e1, ep, eq, hwb⟩ := mo_wt_g hw (j := (k : Int)) (by omega) (by omega)
    have e1 : W[k]? = some w := e1
    have et : (W.take (k + 1)).reverse = w :: (W.take k).reverse := by
      rw [List.take_add_one, e1]
      show (W.take k ++ [w]).reverse = _
      rw [List.reverse_append]
      rfl
    have ek : ((k + 1 : Nat) : Int) - 1 = (k : Int) := by omega
    rw [ek]
    refine mw_iload dM_resolve_180 rfl ?_
    refine mw_if_lt (tgt := 290) dM_resolve_182 (by decide) (by first | omega | (simp only [mo_uz_1, mo_uz_2, mo_uf_1, mo_uf_2, mo_uf_22, mo_ug_1, mo_ug_2, mo_ug_22, mo_len, Nat.reduceEqDiff, false_and, true_and, and_true, and_false, if_false, if_true, reduceIte, ite_true, ite_false, ne_eq, not_true_eq_false, not_false_eq_true, mo_ff_l, mo_ff_f, mo_ff_2, mo_ff_12, mo_ff_24, mo_wq_1, mo_wq_31, mo_wq_32, mo_wq_2] at *; omega)) (fun hb182 => absurd hb182 (by omega)) (fun hb182 => ?_)
    refine mw_aload_n dM_resolve_185 rfl ?_
    refine mw_getI dM_resolve_186 fM_82 rfl (fun hv186 => ?_)
    refine mw_bipush dM_resolve_189 (by decide +kernel) ?_
    refine mw_icmp_ne (tgt := 197) dM_resolve_191 (by decide) (by first | omega | (simp only [mo_uz_1, mo_uz_2, mo_uf_1, mo_uf_2, mo_uf_22, mo_ug_1, mo_ug_2, mo_ug_22, mo_len, Nat.reduceEqDiff, false_and, true_and, and_true, and_false, if_false, if_true, reduceIte, ite_true, ite_false, ne_eq, not_true_eq_false, not_false_eq_true, mo_ff_l, mo_ff_f, mo_ff_2, mo_ff_12, mo_ff_24, mo_wq_1, mo_wq_31, mo_wq_32, mo_wq_2] at *; omega)) (by first | omega | (simp only [mo_uz_1, mo_uz_2, mo_uf_1, mo_uf_2, mo_uf_22, mo_ug_1, mo_ug_2, mo_ug_22, mo_len, Nat.reduceEqDiff, false_and, true_and, and_true, and_false, if_false, if_true, reduceIte, ite_true, ite_false, ne_eq, not_true_eq_false, not_false_eq_true, mo_ff_l, mo_ff_f, mo_ff_2, mo_ff_12, mo_ff_24, mo_wq_1, mo_wq_31, mo_wq_32, mo_wq_2] at *; omega)) (fun hb191 => ?_) (fun hb191 => ?_)
    · have hc9 : ¬ s1.1 24 = 120 := hb191
      refine mw_aload_n dM_resolve_197 rfl ?_
      refine mw_get dM_resolve_198 fM_85 rfl ?_
      refine mw_aload_n dM_resolve_201 rfl ?_
      refine mw_getI dM_resolve_202 fM_82 rfl (fun hv202 => ?_)
      refine mw_aload_n dM_resolve_205 rfl ?_
      refine mw_get dM_resolve_206 fM_13 rfl ?_
      refine mw_aload_n dM_resolve_209 rfl ?_
      refine mw_get dM_resolve_210 fM_100 rfl ?_
      refine mw_iload dM_resolve_213 rfl ?_
      refine mw_iald dM_resolve_215 rfl rfl (by first | omega | (simp only [mo_uz_1, mo_uz_2, mo_uf_1, mo_uf_2, mo_uf_22, mo_ug_1, mo_ug_2, mo_ug_22, mo_len, Nat.reduceEqDiff, false_and, true_and, and_true, and_false, if_false, if_true, reduceIte, ite_true, ite_false, ne_eq, not_true_eq_false, not_false_eq_true, mo_ff_l, mo_ff_f, mo_ff_2, mo_ff_12, mo_ff_24, mo_wq_1, mo_wq_31, mo_wq_32, mo_wq_2] at *; omega)) (by first | omega | (simp only [mo_uz_1, mo_uz_2, mo_uf_1, mo_uf_2, mo_uf_22, mo_ug_1, mo_ug_2, mo_ug_22, mo_len, Nat.reduceEqDiff, false_and, true_and, and_true, and_false, if_false, if_true, reduceIte, ite_true, ite_false, ne_eq, not_true_eq_false, not_false_eq_true, mo_ff_l, mo_ff_f, mo_ff_2, mo_ff_12, mo_ff_24, mo_wq_1, mo_wq_31, mo_wq_32, mo_wq_2] at *; omega)) (fun hv215 => ?_)
      refine mw_iald dM_resolve_216 rfl rfl (by first | omega | (simp only [mo_uz_1, mo_uz_2, mo_uf_1, mo_uf_2, mo_uf_22, mo_ug_1, mo_ug_2, mo_ug_22, mo_len, Nat.reduceEqDiff, false_and, true_and, and_true, and_false, if_false, if_true, reduceIte, ite_true, ite_false, ne_eq, not_true_eq_false, not_false_eq_true, mo_ff_l, mo_ff_f, mo_ff_2, mo_ff_12, mo_ff_24, mo_wq_1, mo_wq_31, mo_wq_32, mo_wq_2] at *; omega)) (by first | omega | (simp only [mo_uz_1, mo_uz_2, mo_uf_1, mo_uf_2, mo_uf_22, mo_ug_1, mo_ug_2, mo_ug_22, mo_len, Nat.reduceEqDiff, false_and, true_and, and_true, and_false, if_false, if_true, reduceIte, ite_true, ite_false, ne_eq, not_true_eq_false, not_false_eq_true, mo_ff_l, mo_ff_f, mo_ff_2, mo_ff_12, mo_ff_24, mo_wq_1, mo_wq_31, mo_wq_32, mo_wq_2] at *; omega)) (fun hv216 => ?_)
      refine mw_iast dM_resolve_217 rfl rfl (by first | omega | (simp only [mo_uz_1, mo_uz_2, mo_uf_1, mo_uf_2, mo_uf_22, mo_ug_1, mo_ug_2, mo_ug_22, mo_len, Nat.reduceEqDiff, false_and, true_and, and_true, and_false, if_false, if_true, reduceIte, ite_true, ite_false, ne_eq, not_true_eq_false, not_false_eq_true, mo_ff_l, mo_ff_f, mo_ff_2, mo_ff_12, mo_ff_24, mo_wq_1, mo_wq_31, mo_wq_32, mo_wq_2] at *; omega)) (by first | omega | (simp only [mo_uz_1, mo_uz_2, mo_uf_1, mo_uf_2, mo_uf_22, mo_ug_1, mo_ug_2, mo_ug_22, mo_len, Nat.reduceEqDiff, false_and, true_and, and_true, and_false, if_false, if_true, reduceIte, ite_true, ite_false, ne_eq, not_true_eq_false, not_false_eq_true, mo_ff_l, mo_ff_f, mo_ff_2, mo_ff_12, mo_ff_24, mo_wq_1, mo_wq_31, mo_wq_32, mo_wq_2] at *; omega)) (by first | omega | (simp only [mo_uz_1, mo_uz_2, mo_uf_1, mo_uf_2, mo_uf_22, mo_ug_1, mo_ug_2, mo_ug_22, mo_len, Nat.reduceEqDiff, false_and, true_and, and_true, and_false, if_false, if_true, reduceIte, ite_true, ite_false, ne_eq, not_true_eq_false, not_false_eq_true, mo_ff_l, mo_ff_f, mo_ff_2, mo_ff_12, mo_ff_24, mo_wq_1, mo_wq_31, mo_wq_32, mo_wq_2] at *; omega)) ?_
      refine mw_aload_n dM_resolve_218 rfl ?_
      refine mw_get dM_resolve_219 fM_88 rfl ?_
      refine mw_aload_n dM_resolve_222 rfl ?_
      refine mw_getI dM_resolve_223 fM_82 rfl (fun hv223 => ?_)
      refine mw_aload_n dM_resolve_226 rfl ?_
      refine mw_get dM_resolve_227 fM_97 rfl ?_
      refine mw_iload dM_resolve_230 rfl ?_
      refine mw_iald dM_resolve_232 rfl rfl (by first | omega | (simp only [mo_uz_1, mo_uz_2, mo_uf_1, mo_uf_2, mo_uf_22, mo_ug_1, mo_ug_2, mo_ug_22, mo_len, Nat.reduceEqDiff, false_and, true_and, and_true, and_false, if_false, if_true, reduceIte, ite_true, ite_false, ne_eq, not_true_eq_false, not_false_eq_true, mo_ff_l, mo_ff_f, mo_ff_2, mo_ff_12, mo_ff_24, mo_wq_1, mo_wq_31, mo_wq_32, mo_wq_2] at *; omega)) (by first | omega | (simp only [mo_uz_1, mo_uz_2, mo_uf_1, mo_uf_2, mo_uf_22, mo_ug_1, mo_ug_2, mo_ug_22, mo_len, Nat.reduceEqDiff, false_and, true_and, and_true, and_false, if_false, if_true, reduceIte, ite_true, ite_false, ne_eq, not_true_eq_false, not_false_eq_true, mo_ff_l, mo_ff_f, mo_ff_2, mo_ff_12, mo_ff_24, mo_wq_1, mo_wq_31, mo_wq_32, mo_wq_2] at *; omega)) (fun hv232 => ?_)
      refine mw_iast dM_resolve_233 rfl rfl (by first | omega | (simp only [mo_uz_1, mo_uz_2, mo_uf_1, mo_uf_2, mo_uf_22, mo_ug_1, mo_ug_2, mo_ug_22, mo_len, Nat.reduceEqDiff, false_and, true_and, and_true, and_false, if_false, if_true, reduceIte, ite_true, ite_false, ne_eq, not_true_eq_false, not_false_eq_true, mo_ff_l, mo_ff_f, mo_ff_2, mo_ff_12, mo_ff_24, mo_wq_1, mo_wq_31, mo_wq_32, mo_wq_2] at *; omega)) (by first | omega | (simp only [mo_uz_1, mo_uz_2, mo_uf_1, mo_uf_2, mo_uf_22, mo_ug_1, mo_ug_2, mo_ug_22, mo_len, Nat.reduceEqDiff, false_and, true_and, and_true, and_false, if_false, if_true, reduceIte, ite_true, ite_false, ne_eq, not_true_eq_false, not_false_eq_true, mo_ff_l, mo_ff_f, mo_ff_2, mo_ff_12, mo_ff_24, mo_wq_1, mo_wq_31, mo_wq_32, mo_wq_2] at *; omega)) (by first | omega | (simp only [mo_uz_1, mo_uz_2, mo_uf_1, mo_uf_2, mo_uf_22, mo_ug_1, mo_ug_2, mo_ug_22, mo_len, Nat.reduceEqDiff, false_and, true_and, and_true, and_false, if_false, if_true, reduceIte, ite_true, ite_false, ne_eq, not_true_eq_false, not_false_eq_true, mo_ff_l, mo_ff_f, mo_ff_2, mo_ff_12, mo_ff_24, mo_wq_1, mo_wq_31, mo_wq_32, mo_wq_2] at *; omega)) ?_
      refine mw_aload_n dM_resolve_234 rfl ?_
      refine mw_get dM_resolve_235 fM_91 rfl ?_
      refine mw_aload_n dM_resolve_238 rfl ?_
      refine mw_getI dM_resolve_239 fM_82 rfl (fun hv239 => ?_)
      refine mw_aload_n dM_resolve_242 rfl ?_
      refine mw_get dM_resolve_243 fM_13 rfl ?_
      refine mw_aload_n dM_resolve_246 rfl ?_
      refine mw_get dM_resolve_247 fM_100 rfl ?_
      refine mw_iload dM_resolve_250 rfl ?_
      refine mw_iald dM_resolve_252 rfl rfl (by first | omega | (simp only [mo_uz_1, mo_uz_2, mo_uf_1, mo_uf_2, mo_uf_22, mo_ug_1, mo_ug_2, mo_ug_22, mo_len, Nat.reduceEqDiff, false_and, true_and, and_true, and_false, if_false, if_true, reduceIte, ite_true, ite_false, ne_eq, not_true_eq_false, not_false_eq_true, mo_ff_l, mo_ff_f, mo_ff_2, mo_ff_12, mo_ff_24, mo_wq_1, mo_wq_31, mo_wq_32, mo_wq_2] at *; omega)) (by first | omega | (simp only [mo_uz_1, mo_uz_2, mo_uf_1, mo_uf_2, mo_uf_22, mo_ug_1, mo_ug_2, mo_ug_22, mo_len, Nat.reduceEqDiff, false_and, true_and, and_true, and_false, if_false, if_true, reduceIte, ite_true, ite_false, ne_eq, not_true_eq_false, not_false_eq_true, mo_ff_l, mo_ff_f, mo_ff_2, mo_ff_12, mo_ff_24, mo_wq_1, mo_wq_31, mo_wq_32, mo_wq_2] at *; omega)) (fun hv252 => ?_)
      refine mw_iconst dM_resolve_253 ?_
      refine mw_iadd dM_resolve_254 ?_
      refine mw_iald dM_resolve_255 rfl rfl (by first | omega | (simp only [mo_uz_1, mo_uz_2, mo_uf_1, mo_uf_2, mo_uf_22, mo_ug_1, mo_ug_2, mo_ug_22, mo_len, Nat.reduceEqDiff, false_and, true_and, and_true, and_false, if_false, if_true, reduceIte, ite_true, ite_false, ne_eq, not_true_eq_false, not_false_eq_true, mo_ff_l, mo_ff_f, mo_ff_2, mo_ff_12, mo_ff_24, mo_wq_1, mo_wq_31, mo_wq_32, mo_wq_2] at *; omega)) (by first | omega | (simp only [mo_uz_1, mo_uz_2, mo_uf_1, mo_uf_2, mo_uf_22, mo_ug_1, mo_ug_2, mo_ug_22, mo_len, Nat.reduceEqDiff, false_and, true_and, and_true, and_false, if_false, if_true, reduceIte, ite_true, ite_false, ne_eq, not_true_eq_false, not_false_eq_true, mo_ff_l, mo_ff_f, mo_ff_2, mo_ff_12, mo_ff_24, mo_wq_1, mo_wq_31, mo_wq_32, mo_wq_2] at *; omega)) (fun hv255 => ?_)
      refine mw_iast dM_resolve_256 rfl rfl (by first | omega | (simp only [mo_uz_1, mo_uz_2, mo_uf_1, mo_uf_2, mo_uf_22, mo_ug_1, mo_ug_2, mo_ug_22, mo_len, Nat.reduceEqDiff, false_and, true_and, and_true, and_false, if_false, if_true, reduceIte, ite_true, ite_false, ne_eq, not_true_eq_false, not_false_eq_true, mo_ff_l, mo_ff_f, mo_ff_2, mo_ff_12, mo_ff_24, mo_wq_1, mo_wq_31, mo_wq_32, mo_wq_2] at *; omega)) (by first | omega | (simp only [mo_uz_1, mo_uz_2, mo_uf_1, mo_uf_2, mo_uf_22, mo_ug_1, mo_ug_2, mo_ug_22, mo_len, Nat.reduceEqDiff, false_and, true_and, and_true, and_false, if_false, if_true, reduceIte, ite_true, ite_false, ne_eq, not_true_eq_false, not_false_eq_true, mo_ff_l, mo_ff_f, mo_ff_2, mo_ff_12, mo_ff_24, mo_wq_1, mo_wq_31, mo_wq_32, mo_wq_2] at *; omega)) (by first | omega | (simp only [mo_uz_1, mo_uz_2, mo_uf_1, mo_uf_2, mo_uf_22, mo_ug_1, mo_ug_2, mo_ug_22, mo_len, Nat.reduceEqDiff, false_and, true_and, and_true, and_false, if_false, if_true, reduceIte, ite_true, ite_false, ne_eq, not_true_eq_false, not_false_eq_true, mo_ff_l, mo_ff_f, mo_ff_2, mo_ff_12, mo_ff_24, mo_wq_1, mo_wq_31, mo_wq_32, mo_wq_2] at *; omega)) ?_
      refine mw_aload_n dM_resolve_257 rfl ?_
      refine mw_get dM_resolve_258 fM_94 rfl ?_
      refine mw_aload_n dM_resolve_261 rfl ?_
      refine mw_getI dM_resolve_262 fM_82 rfl (fun hv262 => ?_)
      refine mw_iload dM_resolve_265 rfl ?_
      refine mw_iast dM_resolve_267 rfl rfl (by first | omega | (simp only [mo_uz_1, mo_uz_2, mo_uf_1, mo_uf_2, mo_uf_22, mo_ug_1, mo_ug_2, mo_ug_22, mo_len, Nat.reduceEqDiff, false_and, true_and, and_true, and_false, if_false, if_true, reduceIte, ite_true, ite_false, ne_eq, not_true_eq_false, not_false_eq_true, mo_ff_l, mo_ff_f, mo_ff_2, mo_ff_12, mo_ff_24, mo_wq_1, mo_wq_31, mo_wq_32, mo_wq_2] at *; omega)) (by first | omega | (simp only [mo_uz_1, mo_uz_2, mo_uf_1, mo_uf_2, mo_uf_22, mo_ug_1, mo_ug_2, mo_ug_22, mo_len, Nat.reduceEqDiff, false_and, true_and, and_true, and_false, if_false, if_true, reduceIte, ite_true, ite_false, ne_eq, not_true_eq_false, not_false_eq_true, mo_ff_l, mo_ff_f, mo_ff_2, mo_ff_12, mo_ff_24, mo_wq_1, mo_wq_31, mo_wq_32, mo_wq_2] at *; omega)) (by first | omega | (simp only [mo_uz_1, mo_uz_2, mo_uf_1, mo_uf_2, mo_uf_22, mo_ug_1, mo_ug_2, mo_ug_22, mo_len, Nat.reduceEqDiff, false_and, true_and, and_true, and_false, if_false, if_true, reduceIte, ite_true, ite_false, ne_eq, not_true_eq_false, not_false_eq_true, mo_ff_l, mo_ff_f, mo_ff_2, mo_ff_12, mo_ff_24, mo_wq_1, mo_wq_31, mo_wq_32, mo_wq_2] at *; omega)) ?_
      refine mw_aload_n dM_resolve_268 rfl ?_
      refine mw_getI dM_resolve_269 fM_82 rfl (fun hv269 => ?_)
      refine mw_istore dM_resolve_272 (by decide) rfl ?_
      refine mw_aload_n dM_resolve_274 rfl ?_
      refine mw_dup dM_resolve_275 rfl ?_
      refine mw_getI dM_resolve_276 fM_82 rfl (fun hv276 => ?_)
      refine mw_iconst dM_resolve_279 ?_
      refine mw_iadd dM_resolve_280 ?_
      refine mw_putI dM_resolve_281 sM_82 (by decide) rfl (by first | omega | (simp only [mo_uz_1, mo_uz_2, mo_uf_1, mo_uf_2, mo_uf_22, mo_ug_1, mo_ug_2, mo_ug_22, mo_len, Nat.reduceEqDiff, false_and, true_and, and_true, and_false, if_false, if_true, reduceIte, ite_true, ite_false, ne_eq, not_true_eq_false, not_false_eq_true, mo_ff_l, mo_ff_f, mo_ff_2, mo_ff_12, mo_ff_24, mo_wq_1, mo_wq_31, mo_wq_32, mo_wq_2] at *; omega)) ?_
      refine mw_iinc dM_resolve_284 rfl (by decide) rfl ?_
      refine mw_goto (tgt := 180) dM_resolve_287 (by decide) ?_
      refine mw_eq (?_ : _ = mo_ff (mo_wq (mo_psh s1 w ty) p q) x y) (mw_lo ?_ (ih (mo_psh s1 w ty) (s1.1 24) (by omega) ⟨by show 8 ≤ s1.1 24 + 1; omega, by show s1.1 24 + 1 ≤ 120; omega⟩ (by omega) (fun x y => ?_) (by omega)))
      · unfold mo_psh
        rw [← mo_wq_uz _ _ _ _ _ (by decide) (by decide), ← mo_wq_uf _ _ _ _ _ (by decide), ← mo_wq_uf _ _ _ _ _ (by decide), ← mo_wq_uf _ _ _ _ _ (by decide), ← mo_wq_uf _ _ _ _ _ (by decide), ← ep, ← eq]
        rfl
      · rfl
      · have := hq x y
        rw [et, mo_dfn, if_neg hc9] at this
        exact this
    · have hc9 : s1.1 24 = 120 := hb191
      refine mw_bipush dM_resolve_194 (by decide +kernel) ?_
      refine mw_iret dM_resolve_196 rfl ?_
      have := hq x y
      rw [et, mo_dfn, if_pos hc9] at this
      exact this
end MO9
