/-! the reference: resolve, loads, load -/
section MO10
variable {G : aw_G} {b : Nat} {ad : Nat → Nat} {d : Nat} {Q : aw_O → mo_S → Prop} {s : mo_S} {kc ks : Nat}
theorem mo_pst_b {t : mo_T} {N : Int} {n : Nat} {W : mo_WL} {l m : Int} {go : Int → Int → Int × mo_WL → Prop} {r : Int × mo_WL} {k : Nat} (hN : 8 ≤ N ∧ N ≤ 120) (hm : 0 ≤ m) (hg : ∀ l' f, mo_sr t m n l (some (l', f)) → go l' f r → -2 ≤ r.1 ∧ r.1 < N ∧ r.2.length ≤ k) (h : mo_pst t N n W l m go r) : -2 ≤ r.1 ∧ r.1 < N ∧ r.2.length ≤ k := by
  rcases h with ⟨e, h⟩ | ⟨e, _, h⟩ | ⟨l', f, _, h1, ⟨c, h2, h⟩ | ⟨_, ⟨_, h⟩ | ⟨_, h⟩⟩⟩
  · rw [h]; exact ⟨by show -2 ≤ m; omega, by show m < N; omega, Nat.zero_le _⟩
  · rw [h]
    refine ⟨?_, ?_, Nat.zero_le _⟩
    · show -2 ≤ (if W.length = 0 then (-1 : Int) else -2)
      split <;> decide
    · show (if W.length = 0 then (-1 : Int) else -2) < N
      split <;> omega
  · have := h2.1
    rw [h]; exact ⟨by show -2 ≤ c; omega, h2.2.1, Nat.zero_le _⟩
  · rw [h]; exact ⟨by decide, by show -2 < N; omega, Nat.zero_le _⟩
  · exact hg l' f h1 h
theorem mo_ph_b {t : mo_T} {N : Int} {n : Nat} (hN : 8 ≤ N ∧ N ≤ 120) : ∀ (k : Nat) (W : mo_WL) (l m : Int) (r : Int × mo_WL), mo_chn t n l → 0 ≤ m → mo_ph t N n k W l m r → -2 ≤ r.1 ∧ r.1 < N ∧ r.2.length ≤ k := by
  intro k
  induction k with
  | zero => exact fun W l m r hc hm h => mo_pst_b hN hm (fun l' f _ h => by rw [h]; exact ⟨by decide, by show -2 < N; omega, Nat.zero_le _⟩) h
  | succ k ih =>
    intro W l m r hc hm h
    refine mo_pst_b hN hm (fun l' f h1 h => ?_) h
    obtain ⟨r', hr, e⟩ := h
    obtain ⟨q1, q2, q3⟩ := mo_sr_c n l hc h1
    have := ih _ _ _ _ q1 (mo_fl_n q2 q3).1.1 hr
    rw [e]
    exact ⟨this.1, this.2.1, Nat.succ_le_succ this.2.2⟩
/-- the class asked for, or -1, -2, and the state then -/
def mo_rs (s : mo_S) (r : Int × mo_WL) : mo_S × Int := if r.1 < 0 then (s, r.1) else mo_dfn r.2.reverse s r.1
theorem mo_dfn_b : ∀ (W : mo_WL) (s : mo_S) (ty : Int), 8 ≤ s.1 24 ∧ s.1 24 ≤ 120 → 0 ≤ ty ∧ ty < s.1 24 → (s.1 24 ≤ (mo_dfn W s ty).1.1 24 ∧ (mo_dfn W s ty).1.1 24 ≤ 120) ∧ ((mo_dfn W s ty).2 = -2 ∨ (0 ≤ (mo_dfn W s ty).2 ∧ (mo_dfn W s ty).2 < (mo_dfn W s ty).1.1 24)) := by
  intro W
  induction W with
  | nil => exact fun s ty h1 h2 => ⟨⟨Int.le_refl _, h1.2⟩, Or.inr h2⟩
  | cons w W ih =>
    intro s ty h1 h2
    rw [mo_dfn]
    by_cases e : s.1 24 = 120
    · rw [if_pos e]
      exact ⟨⟨Int.le_refl _, h1.2⟩, Or.inl rfl⟩
    · rw [if_neg e]
      have e2 : (mo_psh s w ty).1 24 = s.1 24 + 1 := rfl
      have := ih (mo_psh s w ty) (s.1 24) (by rw [e2]; omega) (by rw [e2]; omega)
      refine ⟨⟨?_, this.1.2⟩, this.2⟩
      have := this.1.1
      rw [e2] at this
      omega
theorem mo_rs_b {s : mo_S} {r : Int × mo_WL} (h24 : 8 ≤ s.1 24 ∧ s.1 24 ≤ 120) (hr : -2 ≤ r.1 ∧ r.1 < s.1 24) : (s.1 24 ≤ (mo_rs s r).1.1 24 ∧ (mo_rs s r).1.1 24 ≤ 120) ∧ -2 ≤ (mo_rs s r).2 ∧ (mo_rs s r).2 < (mo_rs s r).1.1 24 := by
  unfold mo_rs
  split
  · exact ⟨⟨Int.le_refl _, h24.2⟩, hr⟩
  · have := mo_dfn_b r.2.reverse s r.1 h24 (by omega)
    refine ⟨this.1, ?_⟩
    rcases this.2 with h | h <;> omega
theorem mo_resolve {l m : Int} {n : Nat} {r : Int × mo_WL} (hku : mo_ku s.2 (s.1 24)) (h24 : 8 ≤ s.1 24 ∧ s.1 24 ≤ 120) (hc : mo_chn s.2 n l) (hm : 0 ≤ m ∧ m ≤ 63) (hp : mo_ph s.2 (s.1 24) n 8 [] l m r) (hq : ∀ x y p q, Q (.inl (some (.int (iI (mo_rs s r).2)))) (mo_ff (mo_wq (mo_rs s r).1 p q) x y)) : mw G b ad mM_resolve (d + 1 + 1) Q 0 [some (.ref b), some (.int (iI l)), some (.int (iI m)), none, none, none, none, none] [] s kc ks := by
  have hrb := mo_ph_b h24 8 [] l m r hc hm.1 hp
  refine mw_iconst dM_resolve_0 ?_
  refine mw_istore_n dM_resolve_1 (by decide) rfl ?_
  refine mw_iload_n dM_resolve_2 rfl ?_
  refine mw_istore dM_resolve_3 (by decide) rfl ?_
  refine mw_iload_n dM_resolve_5 rfl ?_
  refine mw_istore dM_resolve_6 (by decide) rfl ?_
  refine mw_iconst dM_resolve_8 ?_
  refine mw_istore dM_resolve_9 (by decide) rfl ?_
  refine mw_eq (mo_wq_id s) ?_
  refine mo_res_l hku h24 8 [] l m r _ _ _ _ _ rfl hc hm hp (fun i w hw => by cases hw) (fun h x y p q => ?_) (fun h x y p q m' l' x7 hw => ?_)
  · have := hq x y p q
    unfold mo_rs at this
    rw [if_pos h] at this
    exact this
  · have hw : mo_wt r.2 p q := hw
    show mw G b ad mM_resolve (d + 1 + 1) Q 175 [some (.ref b), some (.int (iI l)), some (.int (iI m)), some (.int (iI (r.2.length : Nat))), some (.int (iI m')), some (.int (iI l')), some (.int (iI r.1)), x7] [] (mo_ff (mo_wq s p q) x y) kc ks
    refine mw_iload_n dM_resolve_175 rfl ?_
    refine mw_iconst dM_resolve_176 ?_
    refine mw_isub dM_resolve_177 ?_
    refine mw_istore dM_resolve_178 (by decide) rfl ?_
    have hl := (mo_ph_b h24 8 [] l m r hc hm.1 hp).2.2
    refine mo_res_d (W := r.2) hw r.2.length s r.1 (Nat.le_refl _) h24 (by omega) (fun x y => ?_) hl
    rw [List.take_length]
    have := hq x y p q
    unfold mo_rs at this
    rw [if_neg (by omega)] at this
    exact this
theorem mo_loads {c m : Int} {n : Nat} {r : Int × mo_WL} (hcc : 0 ≤ c ∧ c ≤ 11) (hku : mo_ku s.2 (s.1 24)) (h24 : 8 ≤ s.1 24 ∧ s.1 24 ≤ 120) (hc : mo_chn s.2 n (s.2.1 21 (3 * c + 2))) (hm : 0 ≤ m ∧ m ≤ 63) (hp : mo_ph s.2 (s.1 24) n 8 [] (s.2.1 21 (3 * c + 2)) m r) (h3 : (mo_rs s r).2 = -1 → ∀ x y p q, Q (.inl (some (.int (iI 0)))) (mo_ff (mo_wq (mo_uz (mo_rs s r).1 0 3) p q) x y)) (h4 : (mo_rs s r).2 = -2 → ∀ x y p q, Q (.inl (some (.int (iI 0)))) (mo_ff (mo_wq (mo_uz (mo_rs s r).1 0 4) p q) x y)) (h0 : 0 ≤ (mo_rs s r).2 → ∀ x y p q, Q (.inl (some (.int (iI (mo_rs s r).2)))) (mo_ff (mo_wq (mo_uz (mo_rs s r).1 0 0) p q) x y)) : mw G b ad mM_loads (d + 1 + 1 + 1) Q 0 [some (.ref b), some (.int (iI c)), some (.int (iI m)), none] [] s kc ks := by
  have hrb := mo_ph_b h24 8 [] _ m r hc hm.1 hp
  have hrs := mo_rs_b h24 (r := r) ⟨hrb.1, hrb.2.1⟩
  refine mw_aload_n dM_loads_0 rfl ?_
  refine mw_aload_n dM_loads_1 rfl ?_
  refine mw_get dM_loads_2 fM_73 rfl ?_
  refine mw_iconst dM_loads_5 ?_
  refine mw_iload_n dM_loads_6 rfl ?_
  refine mw_imul dM_loads_7 ?_
  refine mw_iconst dM_loads_8 ?_
  refine mw_iadd dM_loads_9 ?_
  refine mw_iald dM_loads_10 rfl rfl (by first | omega | (simp only [mo_uz_1, mo_uz_2, mo_uf_1, mo_uf_2, mo_uf_22, mo_ug_1, mo_ug_2, mo_ug_22, mo_len, Nat.reduceEqDiff, false_and, true_and, and_true, and_false, if_false, if_true, reduceIte, ite_true, ite_false, ne_eq, not_true_eq_false, not_false_eq_true, mo_ff_l, mo_ff_f, mo_ff_2, mo_ff_12, mo_ff_24, mo_wq_1, mo_wq_31, mo_wq_32, mo_wq_2] at *; omega)) (by first | omega | (simp only [mo_uz_1, mo_uz_2, mo_uf_1, mo_uf_2, mo_uf_22, mo_ug_1, mo_ug_2, mo_ug_22, mo_len, Nat.reduceEqDiff, false_and, true_and, and_true, and_false, if_false, if_true, reduceIte, ite_true, ite_false, ne_eq, not_true_eq_false, not_false_eq_true, mo_ff_l, mo_ff_f, mo_ff_2, mo_ff_12, mo_ff_24, mo_wq_1, mo_wq_31, mo_wq_32, mo_wq_2] at *; omega)) (fun hv10 => ?_)
  refine mw_iload_n dM_loads_11 rfl ?_
  refine mw_callV2 dM_loads_12 cM_172 (Nat.le_of_ble_eq_true rfl) (Nat.le_of_ble_eq_true rfl) rfl ?_
  refine mo_resolve hku h24 hc hm hp (fun x y p q => ?_)
  refine mw_istore_n dM_loads_15 (by decide) rfl ?_
  refine mw_aload_n dM_loads_16 rfl ?_
  refine mw_iload_n dM_loads_17 rfl ?_
  refine mw_iconst dM_loads_18 ?_
  refine mw_icmp_ne (tgt := 26) dM_loads_19 (by decide) (by first | omega | (simp only [mo_uz_1, mo_uz_2, mo_uf_1, mo_uf_2, mo_uf_22, mo_ug_1, mo_ug_2, mo_ug_22, mo_len, Nat.reduceEqDiff, false_and, true_and, and_true, and_false, if_false, if_true, reduceIte, ite_true, ite_false, ne_eq, not_true_eq_false, not_false_eq_true, mo_ff_l, mo_ff_f, mo_ff_2, mo_ff_12, mo_ff_24, mo_wq_1, mo_wq_31, mo_wq_32, mo_wq_2] at *; omega)) (by first | omega | (simp only [mo_uz_1, mo_uz_2, mo_uf_1, mo_uf_2, mo_uf_22, mo_ug_1, mo_ug_2, mo_ug_22, mo_len, Nat.reduceEqDiff, false_and, true_and, and_true, and_false, if_false, if_true, reduceIte, ite_true, ite_false, ne_eq, not_true_eq_false, not_false_eq_true, mo_ff_l, mo_ff_f, mo_ff_2, mo_ff_12, mo_ff_24, mo_wq_1, mo_wq_31, mo_wq_32, mo_wq_2] at *; omega)) (fun hb19 => ?_) (fun hb19 => ?_)
  · refine mw_iload_n dM_loads_26 rfl ?_
    refine mw_bipush dM_loads_27 (by decide +kernel) ?_
    refine mw_icmp_ne (tgt := 36) dM_loads_29 (by decide) (by first | omega | (simp only [mo_uz_1, mo_uz_2, mo_uf_1, mo_uf_2, mo_uf_22, mo_ug_1, mo_ug_2, mo_ug_22, mo_len, Nat.reduceEqDiff, false_and, true_and, and_true, and_false, if_false, if_true, reduceIte, ite_true, ite_false, ne_eq, not_true_eq_false, not_false_eq_true, mo_ff_l, mo_ff_f, mo_ff_2, mo_ff_12, mo_ff_24, mo_wq_1, mo_wq_31, mo_wq_32, mo_wq_2] at *; omega)) (by first | omega | (simp only [mo_uz_1, mo_uz_2, mo_uf_1, mo_uf_2, mo_uf_22, mo_ug_1, mo_ug_2, mo_ug_22, mo_len, Nat.reduceEqDiff, false_and, true_and, and_true, and_false, if_false, if_true, reduceIte, ite_true, ite_false, ne_eq, not_true_eq_false, not_false_eq_true, mo_ff_l, mo_ff_f, mo_ff_2, mo_ff_12, mo_ff_24, mo_wq_1, mo_wq_31, mo_wq_32, mo_wq_2] at *; omega)) (fun hb29 => ?_) (fun hb29 => ?_)
    · refine mw_iconst dM_loads_36 ?_
      refine mw_putI dM_loads_37 sM_103 (by decide) rfl (by first | omega | (simp only [mo_uz_1, mo_uz_2, mo_uf_1, mo_uf_2, mo_uf_22, mo_ug_1, mo_ug_2, mo_ug_22, mo_len, Nat.reduceEqDiff, false_and, true_and, and_true, and_false, if_false, if_true, reduceIte, ite_true, ite_false, ne_eq, not_true_eq_false, not_false_eq_true, mo_ff_l, mo_ff_f, mo_ff_2, mo_ff_12, mo_ff_24, mo_wq_1, mo_wq_31, mo_wq_32, mo_wq_2] at *; omega)) ?_
      rw [mo_wq_uz _ _ _ _ _ (by decide) (by decide)]
      refine mw_aload_n dM_loads_40 rfl ?_
      refine mw_getI dM_loads_41 fM_103 rfl (fun hv41 => ?_)
      refine mw_if_le (tgt := 51) dM_loads_44 (by decide) (show iB _ from by first | exact (by decide : iB 3) | exact (by decide : iB 4) | exact (by decide : iB 0)) (fun hb44 => ?_) (fun hb44 => ?_)
      · refine mw_iload_n dM_loads_51 rfl ?_
        refine mw_iret dM_loads_52 rfl ?_
        first | (exfalso; have z : (3 : Int) ≤ 0 := hb44; omega) | (exfalso; have z : (4 : Int) ≤ 0 := hb44; omega) | (exfalso; have z : ¬ (0 : Int) ≤ 0 := hb44; omega) | (exfalso; have z : (0 : Int) < 0 := hb44; omega) | exact h3 (by omega) x y p q | exact h4 (by omega) x y p q | exact h0 (by omega) x y p q
      · refine mw_iconst dM_loads_47 ?_
        refine mw_goto (tgt := 52) dM_loads_48 (by decide) ?_
        refine mw_iret dM_loads_52 rfl ?_
        first | (exfalso; have z : (3 : Int) ≤ 0 := hb44; omega) | (exfalso; have z : (4 : Int) ≤ 0 := hb44; omega) | (exfalso; have z : ¬ (0 : Int) ≤ 0 := hb44; omega) | (exfalso; have z : (0 : Int) < 0 := hb44; omega) | exact h3 (by omega) x y p q | exact h4 (by omega) x y p q | exact h0 (by omega) x y p q
    · refine mw_iconst dM_loads_32 ?_
      refine mw_goto (tgt := 37) dM_loads_33 (by decide) ?_
      refine mw_putI dM_loads_37 sM_103 (by decide) rfl (by first | omega | (simp only [mo_uz_1, mo_uz_2, mo_uf_1, mo_uf_2, mo_uf_22, mo_ug_1, mo_ug_2, mo_ug_22, mo_len, Nat.reduceEqDiff, false_and, true_and, and_true, and_false, if_false, if_true, reduceIte, ite_true, ite_false, ne_eq, not_true_eq_false, not_false_eq_true, mo_ff_l, mo_ff_f, mo_ff_2, mo_ff_12, mo_ff_24, mo_wq_1, mo_wq_31, mo_wq_32, mo_wq_2] at *; omega)) ?_
      rw [mo_wq_uz _ _ _ _ _ (by decide) (by decide)]
      refine mw_aload_n dM_loads_40 rfl ?_
      refine mw_getI dM_loads_41 fM_103 rfl (fun hv41 => ?_)
      refine mw_if_le (tgt := 51) dM_loads_44 (by decide) (show iB _ from by first | exact (by decide : iB 3) | exact (by decide : iB 4) | exact (by decide : iB 0)) (fun hb44 => ?_) (fun hb44 => ?_)
      · refine mw_iload_n dM_loads_51 rfl ?_
        refine mw_iret dM_loads_52 rfl ?_
        first | (exfalso; have z : (3 : Int) ≤ 0 := hb44; omega) | (exfalso; have z : (4 : Int) ≤ 0 := hb44; omega) | (exfalso; have z : ¬ (0 : Int) ≤ 0 := hb44; omega) | (exfalso; have z : (0 : Int) < 0 := hb44; omega) | exact h3 (by omega) x y p q | exact h4 (by omega) x y p q | exact h0 (by omega) x y p q
      · refine mw_iconst dM_loads_47 ?_
        refine mw_goto (tgt := 52) dM_loads_48 (by decide) ?_
        refine mw_iret dM_loads_52 rfl ?_
        first | (exfalso; have z : (3 : Int) ≤ 0 := hb44; omega) | (exfalso; have z : (4 : Int) ≤ 0 := hb44; omega) | (exfalso; have z : ¬ (0 : Int) ≤ 0 := hb44; omega) | (exfalso; have z : (0 : Int) < 0 := hb44; omega) | exact h3 (by omega) x y p q | exact h4 (by omega) x y p q | exact h0 (by omega) x y p q
  · refine mw_iconst dM_loads_22 ?_
    refine mw_goto (tgt := 37) dM_loads_23 (by decide) ?_
    refine mw_putI dM_loads_37 sM_103 (by decide) rfl (by first | omega | (simp only [mo_uz_1, mo_uz_2, mo_uf_1, mo_uf_2, mo_uf_22, mo_ug_1, mo_ug_2, mo_ug_22, mo_len, Nat.reduceEqDiff, false_and, true_and, and_true, and_false, if_false, if_true, reduceIte, ite_true, ite_false, ne_eq, not_true_eq_false, not_false_eq_true, mo_ff_l, mo_ff_f, mo_ff_2, mo_ff_12, mo_ff_24, mo_wq_1, mo_wq_31, mo_wq_32, mo_wq_2] at *; omega)) ?_
    rw [mo_wq_uz _ _ _ _ _ (by decide) (by decide)]
    refine mw_aload_n dM_loads_40 rfl ?_
    refine mw_getI dM_loads_41 fM_103 rfl (fun hv41 => ?_)
    refine mw_if_le (tgt := 51) dM_loads_44 (by decide) (show iB _ from by first | exact (by decide : iB 3) | exact (by decide : iB 4) | exact (by decide : iB 0)) (fun hb44 => ?_) (fun hb44 => ?_)
    · refine mw_iload_n dM_loads_51 rfl ?_
      refine mw_iret dM_loads_52 rfl ?_
      first | (exfalso; have z : (3 : Int) ≤ 0 := hb44; omega) | (exfalso; have z : (4 : Int) ≤ 0 := hb44; omega) | (exfalso; have z : ¬ (0 : Int) ≤ 0 := hb44; omega) | (exfalso; have z : (0 : Int) < 0 := hb44; omega) | exact h3 (by omega) x y p q | exact h4 (by omega) x y p q | exact h0 (by omega) x y p q
    · refine mw_iconst dM_loads_47 ?_
      refine mw_goto (tgt := 52) dM_loads_48 (by decide) ?_
      refine mw_iret dM_loads_52 rfl ?_
      first | (exfalso; have z : (3 : Int) ≤ 0 := hb44; omega) | (exfalso; have z : (4 : Int) ≤ 0 := hb44; omega) | (exfalso; have z : ¬ (0 : Int) ≤ 0 := hb44; omega) | (exfalso; have z : (0 : Int) < 0 := hb44; omega) | exact h3 (by omega) x y p q | exact h4 (by omega) x y p q | exact h0 (by omega) x y p q

theorem mo_load {c m : Int} (hc : iB c) (hm : iB m) (h12 : 1 ≤ s.1 12 ∧ s.1 12 ≤ 12) (h24 : 8 ≤ s.1 24 ∧ s.1 24 ≤ 120) (hku : mo_ku s.2 (s.1 24)) (hbad : ¬ ((0 ≤ c ∧ c < s.1 12) ∧ 0 ≤ m ∧ m ≤ 63) → Q (.inl (some (.int (iI 0)))) (mo_uz s 0 1)) (hst : (0 ≤ c ∧ c < s.1 12) ∧ 0 ≤ m ∧ m ≤ 63 → ¬ s.2.1 13 c = 1 → Q (.inl (some (.int (iI 0)))) (mo_uz s 0 2)) (hgo : (0 ≤ c ∧ c < s.1 12) ∧ 0 ≤ m ∧ m ≤ 63 → s.2.1 13 c = 1 → ∃ n r, (mo_chn s.2 n (s.2.1 21 (3 * c + 2)) ∧ mo_ph s.2 (s.1 24) n 8 [] (s.2.1 21 (3 * c + 2)) m r) ∧ ((mo_rs (mo_uz s 0 0) r).2 = -1 → ∀ x y p q, Q (.inl (some (.int (iI 0)))) (mo_ff (mo_wq (mo_uz (mo_rs (mo_uz s 0 0) r).1 0 3) p q) x y)) ∧ ((mo_rs (mo_uz s 0 0) r).2 = -2 → ∀ x y p q, Q (.inl (some (.int (iI 0)))) (mo_ff (mo_wq (mo_uz (mo_rs (mo_uz s 0 0) r).1 0 4) p q) x y)) ∧ (0 ≤ (mo_rs (mo_uz s 0 0) r).2 → ∀ x y p q, Q (.inl (some (.int (iI (mo_rs (mo_uz s 0 0) r).2)))) (mo_ff (mo_wq (mo_uz (mo_rs (mo_uz s 0 0) r).1 0 0) p q) x y))) : mw G b ad mM_load (d + 1 + 1 + 1 + 1) Q 0 [some (.ref b), some (.int (iI c)), some (.int (iI m))] [] s kc ks := by
  refine mw_aload_n dM_load_0 rfl ?_
  refine mw_aload_n dM_load_1 rfl ?_
  refine mw_iload_n dM_load_2 rfl ?_
  refine mw_callV1 dM_load_3 cM_140 (Nat.le_of_ble_eq_true rfl) (Nat.le_of_ble_eq_true rfl) rfl ?_
  refine mo_noScope (by first | omega | (simp only [mo_uz_1, mo_uz_2, mo_uf_1, mo_uf_2, mo_uf_22, mo_ug_1, mo_ug_2, mo_ug_22, mo_len, Nat.reduceEqDiff, false_and, true_and, and_true, and_false, if_false, if_true, reduceIte, ite_true, ite_false, ne_eq, not_true_eq_false, not_false_eq_true, mo_ff_l, mo_ff_f, mo_ff_2, mo_ff_12, mo_ff_24, mo_wq_1, mo_wq_31, mo_wq_32, mo_wq_2] at *; omega)) (fun hn3 => ?_) (fun hn3 => ?_)
  · refine mw_if_ne (tgt := 19) dM_load_6 (by decide) (by first | omega | (simp only [mo_uz_1, mo_uz_2, mo_uf_1, mo_uf_2, mo_uf_22, mo_ug_1, mo_ug_2, mo_ug_22, mo_len, Nat.reduceEqDiff, false_and, true_and, and_true, and_false, if_false, if_true, reduceIte, ite_true, ite_false, ne_eq, not_true_eq_false, not_false_eq_true, mo_ff_l, mo_ff_f, mo_ff_2, mo_ff_12, mo_ff_24, mo_wq_1, mo_wq_31, mo_wq_32, mo_wq_2] at *; omega)) (fun _ => ?_) (fun hb6 => absurd hb6 (by decide))
    refine mw_iconst dM_load_19 ?_
    refine mw_goto (tgt := 24) dM_load_20 (by decide) ?_
    refine mw_iconst dM_load_24 ?_
    refine mw_callV2 dM_load_25 cM_110 (Nat.le_of_ble_eq_true rfl) (Nat.le_of_ble_eq_true rfl) rfl ?_
    refine mo_fails1 (by decide) ?_
    refine mw_if_ne (tgt := 54) dM_load_28 (by decide) (by first | omega | (simp only [mo_uz_1, mo_uz_2, mo_uf_1, mo_uf_2, mo_uf_22, mo_ug_1, mo_ug_2, mo_ug_22, mo_len, Nat.reduceEqDiff, false_and, true_and, and_true, and_false, if_false, if_true, reduceIte, ite_true, ite_false, ne_eq, not_true_eq_false, not_false_eq_true, mo_ff_l, mo_ff_f, mo_ff_2, mo_ff_12, mo_ff_24, mo_wq_1, mo_wq_31, mo_wq_32, mo_wq_2] at *; omega)) (fun _ => ?_) (fun hb28 => absurd hb28 (by decide))
    refine mw_iconst dM_load_54 ?_
    refine mw_iret dM_load_55 rfl ?_
    first | exact hbad (by first | omega | (simp only [mo_uz_1, mo_uz_2, mo_uf_1, mo_uf_2, mo_uf_22, mo_ug_1, mo_ug_2, mo_ug_22, mo_len, Nat.reduceEqDiff, false_and, true_and, and_true, and_false, if_false, if_true, reduceIte, ite_true, ite_false, ne_eq, not_true_eq_false, not_false_eq_true, mo_ff_l, mo_ff_f, mo_ff_2, mo_ff_12, mo_ff_24, mo_wq_1, mo_wq_31, mo_wq_32, mo_wq_2] at *; omega)) | (rw [mo_uz_uz]; exact hst (by first | omega | (simp only [mo_uz_1, mo_uz_2, mo_uf_1, mo_uf_2, mo_uf_22, mo_ug_1, mo_ug_2, mo_ug_22, mo_len, Nat.reduceEqDiff, false_and, true_and, and_true, and_false, if_false, if_true, reduceIte, ite_true, ite_false, ne_eq, not_true_eq_false, not_false_eq_true, mo_ff_l, mo_ff_f, mo_ff_2, mo_ff_12, mo_ff_24, mo_wq_1, mo_wq_31, mo_wq_32, mo_wq_2] at *; omega)) (by first | omega | (simp only [mo_uz_1, mo_uz_2, mo_uf_1, mo_uf_2, mo_uf_22, mo_ug_1, mo_ug_2, mo_ug_22, mo_len, Nat.reduceEqDiff, false_and, true_and, and_true, and_false, if_false, if_true, reduceIte, ite_true, ite_false, ne_eq, not_true_eq_false, not_false_eq_true, mo_ff_l, mo_ff_f, mo_ff_2, mo_ff_12, mo_ff_24, mo_wq_1, mo_wq_31, mo_wq_32, mo_wq_2] at *; omega)))
  · refine mw_if_ne (tgt := 19) dM_load_6 (by decide) (by first | omega | (simp only [mo_uz_1, mo_uz_2, mo_uf_1, mo_uf_2, mo_uf_22, mo_ug_1, mo_ug_2, mo_ug_22, mo_len, Nat.reduceEqDiff, false_and, true_and, and_true, and_false, if_false, if_true, reduceIte, ite_true, ite_false, ne_eq, not_true_eq_false, not_false_eq_true, mo_ff_l, mo_ff_f, mo_ff_2, mo_ff_12, mo_ff_24, mo_wq_1, mo_wq_31, mo_wq_32, mo_wq_2] at *; omega)) (fun hb6 => absurd hb6 (by decide)) (fun _ => ?_)
    refine mw_iload_n dM_load_9 rfl ?_
    refine mw_iconst dM_load_10 ?_
    refine mw_bipush dM_load_11 (by decide +kernel) ?_
    refine mw_callS3 dM_load_13 cM_106 (Nat.le_of_ble_eq_true rfl) (Nat.le_of_ble_eq_true rfl) rfl ?_
    refine mo_in (by first | omega | (simp only [mo_uz_1, mo_uz_2, mo_uf_1, mo_uf_2, mo_uf_22, mo_ug_1, mo_ug_2, mo_ug_22, mo_len, Nat.reduceEqDiff, false_and, true_and, and_true, and_false, if_false, if_true, reduceIte, ite_true, ite_false, ne_eq, not_true_eq_false, not_false_eq_true, mo_ff_l, mo_ff_f, mo_ff_2, mo_ff_12, mo_ff_24, mo_wq_1, mo_wq_31, mo_wq_32, mo_wq_2] at *; omega)) (by first | omega | (simp only [mo_uz_1, mo_uz_2, mo_uf_1, mo_uf_2, mo_uf_22, mo_ug_1, mo_ug_2, mo_ug_22, mo_len, Nat.reduceEqDiff, false_and, true_and, and_true, and_false, if_false, if_true, reduceIte, ite_true, ite_false, ne_eq, not_true_eq_false, not_false_eq_true, mo_ff_l, mo_ff_f, mo_ff_2, mo_ff_12, mo_ff_24, mo_wq_1, mo_wq_31, mo_wq_32, mo_wq_2] at *; omega)) (by first | omega | (simp only [mo_uz_1, mo_uz_2, mo_uf_1, mo_uf_2, mo_uf_22, mo_ug_1, mo_ug_2, mo_ug_22, mo_len, Nat.reduceEqDiff, false_and, true_and, and_true, and_false, if_false, if_true, reduceIte, ite_true, ite_false, ne_eq, not_true_eq_false, not_false_eq_true, mo_ff_l, mo_ff_f, mo_ff_2, mo_ff_12, mo_ff_24, mo_wq_1, mo_wq_31, mo_wq_32, mo_wq_2] at *; omega)) (fun hi13 => ?_) (fun hi13 => ?_)
    · refine mw_if_ne (tgt := 23) dM_load_16 (by decide) (by first | omega | (simp only [mo_uz_1, mo_uz_2, mo_uf_1, mo_uf_2, mo_uf_22, mo_ug_1, mo_ug_2, mo_ug_22, mo_len, Nat.reduceEqDiff, false_and, true_and, and_true, and_false, if_false, if_true, reduceIte, ite_true, ite_false, ne_eq, not_true_eq_false, not_false_eq_true, mo_ff_l, mo_ff_f, mo_ff_2, mo_ff_12, mo_ff_24, mo_wq_1, mo_wq_31, mo_wq_32, mo_wq_2] at *; omega)) (fun _ => ?_) (fun hb16 => absurd hb16 (by decide))
      refine mw_iconst dM_load_23 ?_
      refine mw_iconst dM_load_24 ?_
      refine mw_callV2 dM_load_25 cM_110 (Nat.le_of_ble_eq_true rfl) (Nat.le_of_ble_eq_true rfl) rfl ?_
      refine mo_fails0 (by decide) ?_
      refine mw_if_ne (tgt := 54) dM_load_28 (by decide) (by first | omega | (simp only [mo_uz_1, mo_uz_2, mo_uf_1, mo_uf_2, mo_uf_22, mo_ug_1, mo_ug_2, mo_ug_22, mo_len, Nat.reduceEqDiff, false_and, true_and, and_true, and_false, if_false, if_true, reduceIte, ite_true, ite_false, ne_eq, not_true_eq_false, not_false_eq_true, mo_ff_l, mo_ff_f, mo_ff_2, mo_ff_12, mo_ff_24, mo_wq_1, mo_wq_31, mo_wq_32, mo_wq_2] at *; omega)) (fun hb28 => absurd hb28 (by decide)) (fun _ => ?_)
      refine mw_aload_n dM_load_31 rfl ?_
      refine mw_aload_n dM_load_32 rfl ?_
      refine mw_get dM_load_33 fM_49 rfl ?_
      refine mw_iload_n dM_load_36 rfl ?_
      refine mw_iald dM_load_37 rfl rfl (by first | omega | (simp only [mo_uz_1, mo_uz_2, mo_uf_1, mo_uf_2, mo_uf_22, mo_ug_1, mo_ug_2, mo_ug_22, mo_len, Nat.reduceEqDiff, false_and, true_and, and_true, and_false, if_false, if_true, reduceIte, ite_true, ite_false, ne_eq, not_true_eq_false, not_false_eq_true, mo_ff_l, mo_ff_f, mo_ff_2, mo_ff_12, mo_ff_24, mo_wq_1, mo_wq_31, mo_wq_32, mo_wq_2] at *; omega)) (by first | omega | (simp only [mo_uz_1, mo_uz_2, mo_uf_1, mo_uf_2, mo_uf_22, mo_ug_1, mo_ug_2, mo_ug_22, mo_len, Nat.reduceEqDiff, false_and, true_and, and_true, and_false, if_false, if_true, reduceIte, ite_true, ite_false, ne_eq, not_true_eq_false, not_false_eq_true, mo_ff_l, mo_ff_f, mo_ff_2, mo_ff_12, mo_ff_24, mo_wq_1, mo_wq_31, mo_wq_32, mo_wq_2] at *; omega)) (fun hv37 => ?_)
      refine mw_iconst dM_load_38 ?_
      refine mw_icmp_eq (tgt := 46) dM_load_39 (by decide) (by first | omega | (simp only [mo_uz_1, mo_uz_2, mo_uf_1, mo_uf_2, mo_uf_22, mo_ug_1, mo_ug_2, mo_ug_22, mo_len, Nat.reduceEqDiff, false_and, true_and, and_true, and_false, if_false, if_true, reduceIte, ite_true, ite_false, ne_eq, not_true_eq_false, not_false_eq_true, mo_ff_l, mo_ff_f, mo_ff_2, mo_ff_12, mo_ff_24, mo_wq_1, mo_wq_31, mo_wq_32, mo_wq_2] at *; omega)) (by first | omega | (simp only [mo_uz_1, mo_uz_2, mo_uf_1, mo_uf_2, mo_uf_22, mo_ug_1, mo_ug_2, mo_ug_22, mo_len, Nat.reduceEqDiff, false_and, true_and, and_true, and_false, if_false, if_true, reduceIte, ite_true, ite_false, ne_eq, not_true_eq_false, not_false_eq_true, mo_ff_l, mo_ff_f, mo_ff_2, mo_ff_12, mo_ff_24, mo_wq_1, mo_wq_31, mo_wq_32, mo_wq_2] at *; omega)) (fun hb39 => ?_) (fun hb39 => ?_)
      · refine mw_iconst dM_load_46 ?_
        refine mw_iconst dM_load_47 ?_
        refine mw_callV2 dM_load_48 cM_110 (Nat.le_of_ble_eq_true rfl) (Nat.le_of_ble_eq_true rfl) rfl ?_
        refine mo_fails0 (by decide) ?_
        refine mw_if_eq (tgt := 56) dM_load_51 (by decide) (by first | omega | (simp only [mo_uz_1, mo_uz_2, mo_uf_1, mo_uf_2, mo_uf_22, mo_ug_1, mo_ug_2, mo_ug_22, mo_len, Nat.reduceEqDiff, false_and, true_and, and_true, and_false, if_false, if_true, reduceIte, ite_true, ite_false, ne_eq, not_true_eq_false, not_false_eq_true, mo_ff_l, mo_ff_f, mo_ff_2, mo_ff_12, mo_ff_24, mo_wq_1, mo_wq_31, mo_wq_32, mo_wq_2] at *; omega)) (fun _ => ?_) (fun hb51 => absurd hb51 (by decide))
        refine mw_aload_n dM_load_56 rfl ?_
        refine mw_iload_n dM_load_57 rfl ?_
        refine mw_iload_n dM_load_58 rfl ?_
        refine mw_callV2 dM_load_59 cM_175 (Nat.le_of_ble_eq_true rfl) (Nat.le_of_ble_eq_true rfl) rfl ?_
        rw [mo_uz_uz]
        obtain ⟨n, r, ⟨g1, g2⟩, g3, g4, g5⟩ := hgo (by first | omega | (simp only [mo_uz_1, mo_uz_2, mo_uf_1, mo_uf_2, mo_uf_22, mo_ug_1, mo_ug_2, mo_ug_22, mo_len, Nat.reduceEqDiff, false_and, true_and, and_true, and_false, if_false, if_true, reduceIte, ite_true, ite_false, ne_eq, not_true_eq_false, not_false_eq_true, mo_ff_l, mo_ff_f, mo_ff_2, mo_ff_12, mo_ff_24, mo_wq_1, mo_wq_31, mo_wq_32, mo_wq_2] at *; omega)) (by first | assumption | (simp only [mo_uz_1, mo_uz_2, mo_uf_1, mo_uf_2, mo_uf_22, mo_ug_1, mo_ug_2, mo_ug_22, mo_len, Nat.reduceEqDiff, false_and, true_and, and_true, and_false, if_false, if_true, reduceIte, ite_true, ite_false, ne_eq, not_true_eq_false, not_false_eq_true, mo_ff_l, mo_ff_f, mo_ff_2, mo_ff_12, mo_ff_24, mo_wq_1, mo_wq_31, mo_wq_32, mo_wq_2] at *; omega))
        refine mo_loads (s := mo_uz s 0 0) (n := n) (r := r) (by first | omega | (simp only [mo_uz_1, mo_uz_2, mo_uf_1, mo_uf_2, mo_uf_22, mo_ug_1, mo_ug_2, mo_ug_22, mo_len, Nat.reduceEqDiff, false_and, true_and, and_true, and_false, if_false, if_true, reduceIte, ite_true, ite_false, ne_eq, not_true_eq_false, not_false_eq_true, mo_ff_l, mo_ff_f, mo_ff_2, mo_ff_12, mo_ff_24, mo_wq_1, mo_wq_31, mo_wq_32, mo_wq_2] at *; omega)) hku h24 g1 (by first | omega | (simp only [mo_uz_1, mo_uz_2, mo_uf_1, mo_uf_2, mo_uf_22, mo_ug_1, mo_ug_2, mo_ug_22, mo_len, Nat.reduceEqDiff, false_and, true_and, and_true, and_false, if_false, if_true, reduceIte, ite_true, ite_false, ne_eq, not_true_eq_false, not_false_eq_true, mo_ff_l, mo_ff_f, mo_ff_2, mo_ff_12, mo_ff_24, mo_wq_1, mo_wq_31, mo_wq_32, mo_wq_2] at *; omega)) g2 (fun e x y p q => ?_) (fun e x y p q => ?_) (fun e x y p q => ?_)
        · refine mw_iret dM_load_62 rfl ?_
          first | exact g3 e x y p q | exact g4 e x y p q | exact g5 e x y p q
        · refine mw_iret dM_load_62 rfl ?_
          first | exact g3 e x y p q | exact g4 e x y p q | exact g5 e x y p q
        · refine mw_iret dM_load_62 rfl ?_
          first | exact g3 e x y p q | exact g4 e x y p q | exact g5 e x y p q
      · refine mw_iconst dM_load_42 ?_
        refine mw_goto (tgt := 47) dM_load_43 (by decide) ?_
        refine mw_iconst dM_load_47 ?_
        refine mw_callV2 dM_load_48 cM_110 (Nat.le_of_ble_eq_true rfl) (Nat.le_of_ble_eq_true rfl) rfl ?_
        refine mo_fails1 (by decide) ?_
        refine mw_if_eq (tgt := 56) dM_load_51 (by decide) (by first | omega | (simp only [mo_uz_1, mo_uz_2, mo_uf_1, mo_uf_2, mo_uf_22, mo_ug_1, mo_ug_2, mo_ug_22, mo_len, Nat.reduceEqDiff, false_and, true_and, and_true, and_false, if_false, if_true, reduceIte, ite_true, ite_false, ne_eq, not_true_eq_false, not_false_eq_true, mo_ff_l, mo_ff_f, mo_ff_2, mo_ff_12, mo_ff_24, mo_wq_1, mo_wq_31, mo_wq_32, mo_wq_2] at *; omega)) (fun hb51 => absurd hb51 (by decide)) (fun _ => ?_)
        refine mw_iconst dM_load_54 ?_
        refine mw_iret dM_load_55 rfl ?_
        first | exact hbad (by first | omega | (simp only [mo_uz_1, mo_uz_2, mo_uf_1, mo_uf_2, mo_uf_22, mo_ug_1, mo_ug_2, mo_ug_22, mo_len, Nat.reduceEqDiff, false_and, true_and, and_true, and_false, if_false, if_true, reduceIte, ite_true, ite_false, ne_eq, not_true_eq_false, not_false_eq_true, mo_ff_l, mo_ff_f, mo_ff_2, mo_ff_12, mo_ff_24, mo_wq_1, mo_wq_31, mo_wq_32, mo_wq_2] at *; omega)) | (rw [mo_uz_uz]; exact hst (by first | omega | (simp only [mo_uz_1, mo_uz_2, mo_uf_1, mo_uf_2, mo_uf_22, mo_ug_1, mo_ug_2, mo_ug_22, mo_len, Nat.reduceEqDiff, false_and, true_and, and_true, and_false, if_false, if_true, reduceIte, ite_true, ite_false, ne_eq, not_true_eq_false, not_false_eq_true, mo_ff_l, mo_ff_f, mo_ff_2, mo_ff_12, mo_ff_24, mo_wq_1, mo_wq_31, mo_wq_32, mo_wq_2] at *; omega)) (by first | omega | (simp only [mo_uz_1, mo_uz_2, mo_uf_1, mo_uf_2, mo_uf_22, mo_ug_1, mo_ug_2, mo_ug_22, mo_len, Nat.reduceEqDiff, false_and, true_and, and_true, and_false, if_false, if_true, reduceIte, ite_true, ite_false, ne_eq, not_true_eq_false, not_false_eq_true, mo_ff_l, mo_ff_f, mo_ff_2, mo_ff_12, mo_ff_24, mo_wq_1, mo_wq_31, mo_wq_32, mo_wq_2] at *; omega)))
    · refine mw_if_ne (tgt := 23) dM_load_16 (by decide) (by first | omega | (simp only [mo_uz_1, mo_uz_2, mo_uf_1, mo_uf_2, mo_uf_22, mo_ug_1, mo_ug_2, mo_ug_22, mo_len, Nat.reduceEqDiff, false_and, true_and, and_true, and_false, if_false, if_true, reduceIte, ite_true, ite_false, ne_eq, not_true_eq_false, not_false_eq_true, mo_ff_l, mo_ff_f, mo_ff_2, mo_ff_12, mo_ff_24, mo_wq_1, mo_wq_31, mo_wq_32, mo_wq_2] at *; omega)) (fun hb16 => absurd hb16 (by decide)) (fun _ => ?_)
      refine mw_iconst dM_load_19 ?_
      refine mw_goto (tgt := 24) dM_load_20 (by decide) ?_
      refine mw_iconst dM_load_24 ?_
      refine mw_callV2 dM_load_25 cM_110 (Nat.le_of_ble_eq_true rfl) (Nat.le_of_ble_eq_true rfl) rfl ?_
      refine mo_fails1 (by decide) ?_
      refine mw_if_ne (tgt := 54) dM_load_28 (by decide) (by first | omega | (simp only [mo_uz_1, mo_uz_2, mo_uf_1, mo_uf_2, mo_uf_22, mo_ug_1, mo_ug_2, mo_ug_22, mo_len, Nat.reduceEqDiff, false_and, true_and, and_true, and_false, if_false, if_true, reduceIte, ite_true, ite_false, ne_eq, not_true_eq_false, not_false_eq_true, mo_ff_l, mo_ff_f, mo_ff_2, mo_ff_12, mo_ff_24, mo_wq_1, mo_wq_31, mo_wq_32, mo_wq_2] at *; omega)) (fun _ => ?_) (fun hb28 => absurd hb28 (by decide))
      refine mw_iconst dM_load_54 ?_
      refine mw_iret dM_load_55 rfl ?_
      first | exact hbad (by first | omega | (simp only [mo_uz_1, mo_uz_2, mo_uf_1, mo_uf_2, mo_uf_22, mo_ug_1, mo_ug_2, mo_ug_22, mo_len, Nat.reduceEqDiff, false_and, true_and, and_true, and_false, if_false, if_true, reduceIte, ite_true, ite_false, ne_eq, not_true_eq_false, not_false_eq_true, mo_ff_l, mo_ff_f, mo_ff_2, mo_ff_12, mo_ff_24, mo_wq_1, mo_wq_31, mo_wq_32, mo_wq_2] at *; omega)) | (rw [mo_uz_uz]; exact hst (by first | omega | (simp only [mo_uz_1, mo_uz_2, mo_uf_1, mo_uf_2, mo_uf_22, mo_ug_1, mo_ug_2, mo_ug_22, mo_len, Nat.reduceEqDiff, false_and, true_and, and_true, and_false, if_false, if_true, reduceIte, ite_true, ite_false, ne_eq, not_true_eq_false, not_false_eq_true, mo_ff_l, mo_ff_f, mo_ff_2, mo_ff_12, mo_ff_24, mo_wq_1, mo_wq_31, mo_wq_32, mo_wq_2] at *; omega)) (by first | omega | (simp only [mo_uz_1, mo_uz_2, mo_uf_1, mo_uf_2, mo_uf_22, mo_ug_1, mo_ug_2, mo_ug_22, mo_len, Nat.reduceEqDiff, false_and, true_and, and_true, and_false, if_false, if_true, reduceIte, ite_true, ite_false, ne_eq, not_true_eq_false, not_false_eq_true, mo_ff_l, mo_ff_f, mo_ff_2, mo_ff_12, mo_ff_24, mo_wq_1, mo_wq_31, mo_wq_32, mo_wq_2] at *; omega)))

end MO10
