/-! the reference: its constructor -/
section MO17
variable {G : aw_G} {b : Nat} {d : Nat} {J0 : aw_J} {kc ks : Nat}
def mo_z : mo_S := (fun k => if k = 12 then 1 else if k = 24 then 8 else 0, fun _ _ => 0, fun _ _ => 0)
/-- the fields below j are set -/
def mo_fi (ad : Nat → Nat) (j : Nat) : List Value := [.int (if 0 < j then iI (mo_z.1 0) else 0), (if 1 < j then .ref (ad 1) else .null), (if 2 < j then .ref (ad 2) else .null), (if 3 < j then .ref (ad 3) else .null), (if 4 < j then .ref (ad 4) else .null), (if 5 < j then .ref (ad 5) else .null), (if 6 < j then .ref (ad 6) else .null), (if 7 < j then .ref (ad 7) else .null), (if 8 < j then .ref (ad 8) else .null), (if 9 < j then .ref (ad 9) else .null), (if 10 < j then .ref (ad 10) else .null), (if 11 < j then .ref (ad 11) else .null), .int (if 12 < j then iI (mo_z.1 12) else 0), (if 13 < j then .ref (ad 13) else .null), (if 14 < j then .ref (ad 14) else .null), (if 15 < j then .ref (ad 15) else .null), (if 16 < j then .ref (ad 16) else .null), (if 17 < j then .ref (ad 17) else .null), (if 18 < j then .ref (ad 18) else .null), (if 19 < j then .ref (ad 19) else .null), (if 20 < j then .ref (ad 20) else .null), (if 21 < j then .ref (ad 21) else .null), (if 22 < j then .ref (ad 22) else .null), (if 23 < j then .ref (ad 23) else .null), .int (if 24 < j then iI (mo_z.1 24) else 0), (if 25 < j then .ref (ad 25) else .null), (if 26 < j then .ref (ad 26) else .null), (if 27 < j then .ref (ad 27) else .null), (if 28 < j then .ref (ad 28) else .null), .int (if 29 < j then iI (mo_z.1 29) else 0), .int (if 30 < j then iI (mo_z.1 30) else 0), (if 31 < j then .ref (ad 31) else .null), (if 32 < j then .ref (ad 32) else .null)]
def mo_ad (ad : Nat → Nat) (j q : Nat) : Nat → Nat := fun k => if k = j then q else ad k
/-- the object b under construction, its fields below j set, over the heap J0 -/
def mo_I (G : aw_G) (b : Nat) (ad : Nat → Nat) (j : Nat) (J0 J : aw_J) : Prop := J b = some (.inr (9, mo_fi ad j)) ∧ (∀ k, k < j → mo_isA k = true → J (ad k) = some (mo_arr G mo_z k)) ∧ (∀ i k, i < j → k < j → mo_isA i = true → mo_isA k = true → ad i = ad k → i = k) ∧ (∀ a, a ≠ b → J0 a ≠ none → J a = J0 a) ∧ ∀ k, k < j → mo_isA k = true → J0 (ad k) = none ∧ ad k ≠ b
theorem mo_I.nw {ad : Nat → Nat} {j q : Nat} {J : aw_J} {e : va_E} (h : mo_I G b ad j J0 J) (hq : J q = none) (hJb : J0 b ≠ none) (he : e = mo_arr G mo_z j) (hs : (mo_fi ad j).set j (.ref q) = mo_fi (mo_ad ad j q) (j + 1)) : mo_I G b (mo_ad ad j q) (j + 1) J0 (aw_up (aw_up J q e) b (.inr (9, (mo_fi ad j).set j (.ref q)))) := by
  obtain ⟨h1, h2, h3, h4, h5⟩ := h
  have hqb : q ≠ b := fun z => by rw [z, h1] at hq; cases hq
  have hq0 : J0 q = none := by
    by_cases z : J0 q = none
    · exact z
    · rw [h4 q hqb z] at hq
      exact absurd hq z
  have hqk : ∀ k, k < j → mo_isA k = true → ad k ≠ q := fun k hk ha z => by
    have := h2 k hk ha
    rw [z, hq] at this
    cases this
  have e1 : mo_ad ad j q j = q := if_pos rfl
  have e2 : ∀ k, k < j → mo_ad ad j q k = ad k := fun k hk => if_neg (by omega)
  refine ⟨?_, fun k hk ha => ?_, fun i k hi hk hai hak z => ?_, fun a ha h0 => ?_, fun k hk ha => ?_⟩
  · rw [aw_up_s, hs]
  · by_cases z : k = j
    · subst z
      rw [e1, aw_up_n hqb, aw_up_s, he]
    · have hk' : k < j := by omega
      rw [e2 k hk', aw_up_n (h5 k hk' ha).2, aw_up_n (hqk k hk' ha), h2 k hk' ha]
  · by_cases zi : i = j
    · by_cases zk : k = j
      · omega
      · subst zi
        have hk' : k < i := by omega
        rw [e1, e2 k hk'] at z
        exact absurd z.symm (hqk k hk' hak)
    · by_cases zk : k = j
      · subst zk
        have hi' : i < k := by omega
        rw [e1, e2 i hi'] at z
        exact absurd z (hqk i hi' hai)
      · rw [e2 i (by omega), e2 k (by omega)] at z
        exact h3 i k (by omega) (by omega) hai hak z
  · have : a ≠ q := fun z => by rw [z] at h0; exact h0 hq0
    rw [aw_up_n ha, aw_up_n this, h4 a ha h0]
  · by_cases z : k = j
    · subst z
      rw [e1]
      exact ⟨hq0, hqb⟩
    · rw [e2 k (by omega)]
      exact h5 k (by omega) ha
theorem mo_I.nu {ad : Nat → Nat} {j : Nat} {J : aw_J} {v : Value} (h : mo_I G b ad j J0 J) (hi : mo_isA j = false) (hs : (mo_fi ad j).set j v = mo_fi ad (j + 1)) : mo_I G b ad (j + 1) J0 (aw_up J b (.inr (9, (mo_fi ad j).set j v))) := by
  obtain ⟨h1, h2, h3, h4, h5⟩ := h
  have hl : ∀ k, k < j + 1 → mo_isA k = true → k < j := fun k hk ha => by
    by_cases z : k = j
    · rw [z, hi] at ha; cases ha
    · omega
  refine ⟨by rw [aw_up_s, hs], fun k hk ha => ?_, fun i k hi hk hai hak z => h3 i k (hl i hi hai) (hl k hk hak) hai hak z, fun a ha h0 => ?_, fun k hk ha => h5 k (hl k hk ha) ha⟩
  · rw [aw_up_n (h5 k (hl k hk ha) ha).2, h2 k (hl k hk ha) ha]
  · rw [aw_up_n ha, h4 a ha h0]
theorem mo_I.sk {ad : Nat → Nat} {j : Nat} {J : aw_J} (h : mo_I G b ad j J0 J) (hi : mo_isA j = false) (hs : mo_fi ad j = mo_fi ad (j + 1)) : mo_I G b ad (j + 1) J0 J := by
  obtain ⟨h1, h2, h3, h4, h5⟩ := h
  have hl : ∀ k, k < j + 1 → mo_isA k = true → k < j := fun k hk ha => by
    by_cases z : k = j
    · rw [z, hi] at ha; cases ha
    · omega
  exact ⟨by rw [← hs]; exact h1, fun k hk ha => h2 k (hl k hk ha) ha, fun i k hi hk hai hak z => h3 i k (hl i hi hai) (hl k hk hak) hai hak z, h4, fun k hk ha => h5 k (hl k hk ha) ha⟩
theorem mo_I.P {ad : Nat → Nat} {J : aw_J} (h : mo_I G b ad 33 J0 J) : mo_P G b ad mo_z J := by
  have hl : ∀ k, mo_isA k = true → k < 33 := by
    intro k hk
    by_cases z : k < 33
    · exact z
    · obtain ⟨m, rfl⟩ : ∃ m, k = m + 33 := ⟨k - 33, by omega⟩
      exact absurd hk (by show ¬ decide (m + 33 < 33) = true; simp)
  refine ⟨h.1, fun k hk => h.2.1 k (hl k hk) hk, fun i k hi hk z => h.2.2.1 i k (hl i hi) (hl k hk) hi hk z, fun k => ?_, fun _ _ => (by decide : iB 0)⟩
  show iB (if k = 12 then 1 else if k = 24 then 8 else 0)
  split
  · decide
  · split <;> decide
/-- the state after the constructor, c names in -/
def mo_n0 (c : Int) : mo_S := (mo_z.1, fun k i => if k = 25 ∧ 0 ≤ i ∧ i < c then i else if k = 28 ∧ 0 ≤ i ∧ i < c then -1 else (mo_uf (mo_uf (mo_uf mo_z 5 0 1) 7 0 (-1)) 13 0 1).2.1 k i, mo_z.2.2)
theorem mo_n0_1 (c : Int) : (mo_n0 c).1 = mo_z.1 := rfl
theorem mo_n0_0 : mo_uf (mo_uf (mo_uf mo_z 5 0 1) 7 0 (-1)) 13 0 1 = mo_n0 0 := by
  show (mo_z.1, (mo_uf (mo_uf (mo_uf mo_z 5 0 1) 7 0 (-1)) 13 0 1).2.1, mo_z.2.2) = (mo_z.1, _, mo_z.2.2)
  congr 2
  funext k i
  rw [if_neg (fun z => absurd z.2 (by omega)), if_neg (fun z => absurd z.2 (by omega))]
theorem mo_n0_s {c : Int} (h : 0 ≤ c) : mo_uf (mo_uf (mo_n0 c) 25 c c) 28 c (-1) = mo_n0 (c + 1) := by
  show (mo_z.1, _, mo_z.2.2) = (mo_z.1, _, mo_z.2.2)
  congr 2
  funext k i
  show (if k = 28 ∧ i = c then -1 else if k = 25 ∧ i = c then c else if k = 25 ∧ 0 ≤ i ∧ i < c then i else if k = 28 ∧ 0 ≤ i ∧ i < c then -1 else _) = (if k = 25 ∧ 0 ≤ i ∧ i < c + 1 then i else if k = 28 ∧ 0 ≤ i ∧ i < c + 1 then -1 else _)
  by_cases k5 : k = 25
  · subst k5
    rw [if_neg (fun z => absurd z.1 (by decide))]
    by_cases e : i = c
    · subst e
      rw [if_pos ⟨rfl, rfl⟩, if_pos ⟨rfl, h, by omega⟩]
    · rw [if_neg (fun z => e z.2)]
      by_cases e2 : 0 ≤ i ∧ i < c
      · rw [if_pos ⟨rfl, e2⟩, if_pos ⟨rfl, e2.1, by omega⟩]
      · rw [if_neg (fun z => e2 z.2), if_neg (fun z => absurd z.1 (by decide)), if_neg (fun z => e2 ⟨z.2.1, by have := z.2.2; omega⟩), if_neg (fun z => absurd z.1 (by decide))]
  · rw [if_neg (fun z : k = 25 ∧ i = c => k5 z.1), if_neg (fun z : k = 25 ∧ 0 ≤ i ∧ i < c => k5 z.1), if_neg (fun z : k = 25 ∧ 0 ≤ i ∧ i < c + 1 => k5 z.1)]
    by_cases k8 : k = 28
    · subst k8
      by_cases e : i = c
      · subst e
        rw [if_pos ⟨rfl, rfl⟩, if_pos ⟨rfl, h, by omega⟩]
      · rw [if_neg (fun z => e z.2)]
        by_cases e2 : 0 ≤ i ∧ i < c
        · rw [if_pos ⟨rfl, e2⟩, if_pos ⟨rfl, e2.1, by omega⟩]
        · rw [if_neg (fun z => e2 z.2), if_neg (fun z => e2 ⟨z.2.1, by have := z.2.2; omega⟩)]
    · rw [if_neg (fun z => k8 z.1), if_neg (fun z => k8 z.1), if_neg (fun z => k8 z.1)]
theorem mo_init_l {ad : Nat → Nat} {Q : aw_O → mo_S → Prop} (hq : Q (.inl none) (mo_n0 8)) : ∀ c : Int, c ≤ 8 → 0 ≤ c → mw G b ad mM_init d Q 266 [some (.ref b), some (.int (iI c))] [] (mo_n0 c) kc ks := by
  refine il_up 8 (fun c hc ih h0 => ?_)
  refine mw_iload_n dM_init_266 rfl ?_
  refine mw_bipush dM_init_267 (by decide +kernel) ?_
  refine mw_icmp_ge (tgt := 292) dM_init_269 (by decide) (by first | omega | (simp only [mo_uz_1, mo_uz_2, mo_uf_1, mo_uf_2, mo_uf_22, mo_ug_1, mo_ug_2, mo_ug_22, mo_len, Nat.reduceEqDiff, false_and, true_and, and_true, and_false, if_false, if_true, reduceIte, ite_true, ite_false, ne_eq, not_true_eq_false, not_false_eq_true, mo_n0_1] at *; omega)) (by first | omega | (simp only [mo_uz_1, mo_uz_2, mo_uf_1, mo_uf_2, mo_uf_22, mo_ug_1, mo_ug_2, mo_ug_22, mo_len, Nat.reduceEqDiff, false_and, true_and, and_true, and_false, if_false, if_true, reduceIte, ite_true, ite_false, ne_eq, not_true_eq_false, not_false_eq_true, mo_n0_1] at *; omega)) (fun hb269 => ?_) (fun hb269 => ?_)
  · refine mw_vret dM_init_292 rfl ?_
    have e9 : c = 8 := by omega
    subst e9
    exact hq
  · refine mw_aload_n dM_init_272 rfl ?_
    refine mw_get dM_init_273 fM_85 rfl ?_
    refine mw_iload_n dM_init_276 rfl ?_
    refine mw_iload_n dM_init_277 rfl ?_
    refine mw_iast dM_init_278 rfl rfl (by first | omega | (simp only [mo_uz_1, mo_uz_2, mo_uf_1, mo_uf_2, mo_uf_22, mo_ug_1, mo_ug_2, mo_ug_22, mo_len, Nat.reduceEqDiff, false_and, true_and, and_true, and_false, if_false, if_true, reduceIte, ite_true, ite_false, ne_eq, not_true_eq_false, not_false_eq_true, mo_n0_1] at *; omega)) (by first | omega | (simp only [mo_uz_1, mo_uz_2, mo_uf_1, mo_uf_2, mo_uf_22, mo_ug_1, mo_ug_2, mo_ug_22, mo_len, Nat.reduceEqDiff, false_and, true_and, and_true, and_false, if_false, if_true, reduceIte, ite_true, ite_false, ne_eq, not_true_eq_false, not_false_eq_true, mo_n0_1] at *; omega)) (by first | omega | (simp only [mo_uz_1, mo_uz_2, mo_uf_1, mo_uf_2, mo_uf_22, mo_ug_1, mo_ug_2, mo_ug_22, mo_len, Nat.reduceEqDiff, false_and, true_and, and_true, and_false, if_false, if_true, reduceIte, ite_true, ite_false, ne_eq, not_true_eq_false, not_false_eq_true, mo_n0_1] at *; omega)) ?_
    refine mw_aload_n dM_init_279 rfl ?_
    refine mw_get dM_init_280 fM_94 rfl ?_
    refine mw_iload_n dM_init_283 rfl ?_
    refine mw_iconst dM_init_284 ?_
    refine mw_iast dM_init_285 rfl rfl (by first | omega | (simp only [mo_uz_1, mo_uz_2, mo_uf_1, mo_uf_2, mo_uf_22, mo_ug_1, mo_ug_2, mo_ug_22, mo_len, Nat.reduceEqDiff, false_and, true_and, and_true, and_false, if_false, if_true, reduceIte, ite_true, ite_false, ne_eq, not_true_eq_false, not_false_eq_true, mo_n0_1] at *; omega)) (by first | omega | (simp only [mo_uz_1, mo_uz_2, mo_uf_1, mo_uf_2, mo_uf_22, mo_ug_1, mo_ug_2, mo_ug_22, mo_len, Nat.reduceEqDiff, false_and, true_and, and_true, and_false, if_false, if_true, reduceIte, ite_true, ite_false, ne_eq, not_true_eq_false, not_false_eq_true, mo_n0_1] at *; omega)) (by first | omega | (simp only [mo_uz_1, mo_uz_2, mo_uf_1, mo_uf_2, mo_uf_22, mo_ug_1, mo_ug_2, mo_ug_22, mo_len, Nat.reduceEqDiff, false_and, true_and, and_true, and_false, if_false, if_true, reduceIte, ite_true, ite_false, ne_eq, not_true_eq_false, not_false_eq_true, mo_n0_1] at *; omega)) ?_
    refine mw_iinc dM_init_286 rfl (by decide) rfl ?_
    refine mw_goto (tgt := 266) dM_init_289 (by decide) ?_
    refine mw_eq (mo_n0_s h0) (ih (by omega) (by omega))
theorem mo_init_t {ad : Nat → Nat} {Q : aw_O → mo_S → Prop} (hq : Q (.inl none) (mo_n0 8)) : mw G b ad mM_init d Q 243 [some (.ref b), none] [] mo_z kc ks := by
  refine mw_aload_n dM_init_243 rfl ?_
  refine mw_get dM_init_244 fM_22 rfl ?_
  refine mw_iconst dM_init_247 ?_
  refine mw_iconst dM_init_248 ?_
  refine mw_zast dM_init_249 rfl rfl (by first | omega | (simp only [mo_uz_1, mo_uz_2, mo_uf_1, mo_uf_2, mo_uf_22, mo_ug_1, mo_ug_2, mo_ug_22, mo_len, Nat.reduceEqDiff, false_and, true_and, and_true, and_false, if_false, if_true, reduceIte, ite_true, ite_false, ne_eq, not_true_eq_false, not_false_eq_true, mo_n0_1] at *; omega)) (by first | omega | (simp only [mo_uz_1, mo_uz_2, mo_uf_1, mo_uf_2, mo_uf_22, mo_ug_1, mo_ug_2, mo_ug_22, mo_len, Nat.reduceEqDiff, false_and, true_and, and_true, and_false, if_false, if_true, reduceIte, ite_true, ite_false, ne_eq, not_true_eq_false, not_false_eq_true, mo_n0_1] at *; omega)) (by first | omega | (simp only [mo_uz_1, mo_uz_2, mo_uf_1, mo_uf_2, mo_uf_22, mo_ug_1, mo_ug_2, mo_ug_22, mo_len, Nat.reduceEqDiff, false_and, true_and, and_true, and_false, if_false, if_true, reduceIte, ite_true, ite_false, ne_eq, not_true_eq_false, not_false_eq_true, mo_n0_1] at *; omega)) ?_
  refine mw_aload_n dM_init_250 rfl ?_
  refine mw_get dM_init_251 fM_29 rfl ?_
  refine mw_iconst dM_init_254 ?_
  refine mw_iconst dM_init_255 ?_
  refine mw_iast dM_init_256 rfl rfl (by first | omega | (simp only [mo_uz_1, mo_uz_2, mo_uf_1, mo_uf_2, mo_uf_22, mo_ug_1, mo_ug_2, mo_ug_22, mo_len, Nat.reduceEqDiff, false_and, true_and, and_true, and_false, if_false, if_true, reduceIte, ite_true, ite_false, ne_eq, not_true_eq_false, not_false_eq_true, mo_n0_1] at *; omega)) (by first | omega | (simp only [mo_uz_1, mo_uz_2, mo_uf_1, mo_uf_2, mo_uf_22, mo_ug_1, mo_ug_2, mo_ug_22, mo_len, Nat.reduceEqDiff, false_and, true_and, and_true, and_false, if_false, if_true, reduceIte, ite_true, ite_false, ne_eq, not_true_eq_false, not_false_eq_true, mo_n0_1] at *; omega)) (by first | omega | (simp only [mo_uz_1, mo_uz_2, mo_uf_1, mo_uf_2, mo_uf_22, mo_ug_1, mo_ug_2, mo_ug_22, mo_len, Nat.reduceEqDiff, false_and, true_and, and_true, and_false, if_false, if_true, reduceIte, ite_true, ite_false, ne_eq, not_true_eq_false, not_false_eq_true, mo_n0_1] at *; omega)) ?_
  refine mw_aload_n dM_init_257 rfl ?_
  refine mw_get dM_init_258 fM_49 rfl ?_
  refine mw_iconst dM_init_261 ?_
  refine mw_iconst dM_init_262 ?_
  refine mw_iast dM_init_263 rfl rfl (by first | omega | (simp only [mo_uz_1, mo_uz_2, mo_uf_1, mo_uf_2, mo_uf_22, mo_ug_1, mo_ug_2, mo_ug_22, mo_len, Nat.reduceEqDiff, false_and, true_and, and_true, and_false, if_false, if_true, reduceIte, ite_true, ite_false, ne_eq, not_true_eq_false, not_false_eq_true, mo_n0_1] at *; omega)) (by first | omega | (simp only [mo_uz_1, mo_uz_2, mo_uf_1, mo_uf_2, mo_uf_22, mo_ug_1, mo_ug_2, mo_ug_22, mo_len, Nat.reduceEqDiff, false_and, true_and, and_true, and_false, if_false, if_true, reduceIte, ite_true, ite_false, ne_eq, not_true_eq_false, not_false_eq_true, mo_n0_1] at *; omega)) (by first | omega | (simp only [mo_uz_1, mo_uz_2, mo_uf_1, mo_uf_2, mo_uf_22, mo_ug_1, mo_ug_2, mo_ug_22, mo_len, Nat.reduceEqDiff, false_and, true_and, and_true, and_false, if_false, if_true, reduceIte, ite_true, ite_false, ne_eq, not_true_eq_false, not_false_eq_true, mo_n0_1] at *; omega)) ?_
  refine mw_iconst dM_init_264 ?_
  refine mw_istore_n dM_init_265 (by decide) rfl ?_
  refine mw_eq mo_n0_0 (mo_init_l hq 0 (by decide) (by decide))
theorem mo_anf {J : aw_J} {a c : Nat} {x : va_E} (h1 : J a = some x) (h2 : J c = none) : a ≠ c := fun e => by rw [e, h2] at h1; cases h1
theorem mo_gw {Q : aw_O → aw_J → Prop} {M : aw_M} {pc j : Nat} {L : List (Option Value)} {st : List Value} {ad : Nat → Nat} {J : aw_J} (h : mo_I G b ad j J0 J) (k : ∀ ad J, mo_I G b ad j J0 J → aw_W G M d Q pc L st J kc ks) : aw_W G M d Q pc L st J kc ks := k ad J h
theorem mo_fi_sk (ad : Nat → Nat) : mo_fi ad 0 = mo_fi ad 1 ∧ mo_fi ad 29 = mo_fi ad 30 ∧ mo_fi ad 30 = mo_fi ad 31 := by
  refine ⟨?_, ?_, ?_⟩ <;> simp [mo_fi, mo_z, ← iI_z0]
theorem mo_init {Q : aw_O → aw_J → Prop} {J : aw_J} (hkc : 28 ≤ kc) (hks : 7035 ≤ ks) (hJ : J b = some (.inr (9, mo_fi (fun _ => 0) 0))) (hq : ∀ ad J', mo_P G b ad (mo_n0 8) J' → (∀ k, mo_isA k = true → J (ad k) = none) → (∀ a, a ≠ b → J a ≠ none → J' a = J a) → Q (.inl none) J') : aw_W G mM_init d Q 0 [some (.ref b), none] [] J kc ks := by
  have hJb : J b ≠ none := by rw [hJ]; intro z; cases z
  have hz : ∀ ad J1, mo_I G b ad 33 J J1 → aw_W G mM_init d Q 243 [some (.ref b), none] [] J1 (kc - 28) (ks - 7035) := fun ad J1 hI => by
    have h5 : ∀ k, mo_isA k = true → J (ad k) = none ∧ ad k ≠ b := fun k hk => hI.2.2.2.2 k (by
      by_cases z : k < 33
      · exact z
      · obtain ⟨m, rfl⟩ : ∃ m, k = m + 33 := ⟨k - 33, by omega⟩
        exact absurd hk (by show ¬ decide (m + 33 < 33) = true; simp)) hk
    refine mo_init_t (Q := fun oc s' => oc = .inl none ∧ s' = mo_n0 8) ⟨rfl, rfl⟩ J1 Q hI.P (fun oc s' J' h1 h2 h3 => ?_)
    rw [h3.1]
    rw [h3.2] at h1
    refine hq ad J' h1 (fun k hk => (h5 k hk).1) (fun a ha h0 => ?_)
    rw [h2 a ha (fun k hk z => h0 (by rw [z]; exact (h5 k hk).1)), hI.2.2.2.1 a ha h0]
  refine aw_aload_n dM_init_0 rfl ?_
  refine aw_oinit dM_init_1 wT_3_205 wOI wOC (Nat.le_of_ble_eq_true rfl) ?_
  refine mo_gw (mo_I.sk (j := 0) (ad := fun _ => 0) (J := J) ⟨hJ, fun _ h => absurd h (by omega), fun _ _ h => absurd h (by omega), fun a _ _ => rfl, fun _ h => absurd h (by omega)⟩ rfl (mo_fi_sk _).1) (fun ad J hI => ?_)
  refine aw_aload_n dM_init_4 rfl ?_
  refine aw_sipush (v := 174) dM_init_5 (by decide) ?_
  refine aw_newI (N := 174) (kc' := kc - 1) (ks' := ks - 174) dM_init_8 wP_I (by decide) (by decide) (by decide) (by omega) (by omega) (fun q hq => ?_)
  refine aw_putF dM_init_10 sM_7 rfl ((aw_up_n (mo_anf hI.1 hq)).trans hI.1) rfl rfl (Nat.le_of_ble_eq_true rfl) ?_
  refine mo_gw (hI.nw (j := 1) hq hJb (by first | rfl | (show _ = mo_arr G mo_z 1; simp [mo_arr, mo_kd, mo_len, mo_z, ← iI_z0])) (by first | rfl | simp [mo_fi, mo_ad])) (fun ad J hI => ?_)
  refine aw_aload_n dM_init_13 rfl ?_
  refine aw_sipush (v := 4176) dM_init_14 (by decide) ?_
  refine aw_newI (N := 4176) (kc' := kc - 2) (ks' := ks - 4350) dM_init_17 wP_I (by decide) (by decide) (by decide) (by omega) (by omega) (fun q hq => ?_)
  refine aw_putF dM_init_19 sM_13 rfl ((aw_up_n (mo_anf hI.1 hq)).trans hI.1) rfl rfl (Nat.le_of_ble_eq_true rfl) ?_
  refine mo_gw (hI.nw (j := 2) hq hJb (by first | rfl | (show _ = mo_arr G mo_z 2; simp [mo_arr, mo_kd, mo_len, mo_z, ← iI_z0])) (by first | rfl | simp [mo_fi, mo_ad])) (fun ad J hI => ?_)
  refine aw_aload_n dM_init_22 rfl ?_
  refine aw_sipush (v := 174) dM_init_23 (by decide) ?_
  refine aw_newI (N := 174) (kc' := kc - 3) (ks' := ks - 4524) dM_init_26 wP_I (by decide) (by decide) (by decide) (by omega) (by omega) (fun q hq => ?_)
  refine aw_putF dM_init_28 sM_16 rfl ((aw_up_n (mo_anf hI.1 hq)).trans hI.1) rfl rfl (Nat.le_of_ble_eq_true rfl) ?_
  refine mo_gw (hI.nw (j := 3) hq hJb (by first | rfl | (show _ = mo_arr G mo_z 3; simp [mo_arr, mo_kd, mo_len, mo_z, ← iI_z0])) (by first | rfl | simp [mo_fi, mo_ad])) (fun ad J hI => ?_)
  refine aw_aload_n dM_init_31 rfl ?_
  refine aw_sipush (v := 1392) dM_init_32 (by decide) ?_
  refine aw_newI (N := 1392) (kc' := kc - 4) (ks' := ks - 5916) dM_init_35 wP_I (by decide) (by decide) (by decide) (by omega) (by omega) (fun q hq => ?_)
  refine aw_putF dM_init_37 sM_19 rfl ((aw_up_n (mo_anf hI.1 hq)).trans hI.1) rfl rfl (Nat.le_of_ble_eq_true rfl) ?_
  refine mo_gw (hI.nw (j := 4) hq hJb (by first | rfl | (show _ = mo_arr G mo_z 4; simp [mo_arr, mo_kd, mo_len, mo_z, ← iI_z0])) (by first | rfl | simp [mo_fi, mo_ad])) (fun ad J hI => ?_)
  refine aw_aload_n dM_init_40 rfl ?_
  refine aw_bipush (v := 41) dM_init_41 (by decide) ?_
  refine aw_newZ (N := 41) (kc' := kc - 5) (ks' := ks - 5957) dM_init_43 wP_Z (by decide) (by decide) (by decide) (by omega) (by omega) (fun q hq => ?_)
  refine aw_putF dM_init_45 sM_22 rfl ((aw_up_n (mo_anf hI.1 hq)).trans hI.1) rfl rfl (Nat.le_of_ble_eq_true rfl) ?_
  refine mo_gw (hI.nw (j := 5) hq hJb (by first | rfl | (show _ = mo_arr G mo_z 5; simp [mo_arr, mo_kd, mo_len, mo_z, ← iI_z0])) (by first | rfl | simp [mo_fi, mo_ad])) (fun ad J hI => ?_)
  refine aw_aload_n dM_init_48 rfl ?_
  refine aw_bipush (v := 41) dM_init_49 (by decide) ?_
  refine aw_newI (N := 41) (kc' := kc - 6) (ks' := ks - 5998) dM_init_51 wP_I (by decide) (by decide) (by decide) (by omega) (by omega) (fun q hq => ?_)
  refine aw_putF dM_init_53 sM_26 rfl ((aw_up_n (mo_anf hI.1 hq)).trans hI.1) rfl rfl (Nat.le_of_ble_eq_true rfl) ?_
  refine mo_gw (hI.nw (j := 6) hq hJb (by first | rfl | (show _ = mo_arr G mo_z 6; simp [mo_arr, mo_kd, mo_len, mo_z, ← iI_z0])) (by first | rfl | simp [mo_fi, mo_ad])) (fun ad J hI => ?_)
  refine aw_aload_n dM_init_56 rfl ?_
  refine aw_bipush (v := 41) dM_init_57 (by decide) ?_
  refine aw_newI (N := 41) (kc' := kc - 7) (ks' := ks - 6039) dM_init_59 wP_I (by decide) (by decide) (by decide) (by omega) (by omega) (fun q hq => ?_)
  refine aw_putF dM_init_61 sM_29 rfl ((aw_up_n (mo_anf hI.1 hq)).trans hI.1) rfl rfl (Nat.le_of_ble_eq_true rfl) ?_
  refine mo_gw (hI.nw (j := 7) hq hJb (by first | rfl | (show _ = mo_arr G mo_z 7; simp [mo_arr, mo_kd, mo_len, mo_z, ← iI_z0])) (by first | rfl | simp [mo_fi, mo_ad])) (fun ad J hI => ?_)
  refine aw_aload_n dM_init_64 rfl ?_
  refine aw_bipush (v := 41) dM_init_65 (by decide) ?_
  refine aw_newI (N := 41) (kc' := kc - 8) (ks' := ks - 6080) dM_init_67 wP_I (by decide) (by decide) (by decide) (by omega) (by omega) (fun q hq => ?_)
  refine aw_putF dM_init_69 sM_32 rfl ((aw_up_n (mo_anf hI.1 hq)).trans hI.1) rfl rfl (Nat.le_of_ble_eq_true rfl) ?_
  refine mo_gw (hI.nw (j := 8) hq hJb (by first | rfl | (show _ = mo_arr G mo_z 8; simp [mo_arr, mo_kd, mo_len, mo_z, ← iI_z0])) (by first | rfl | simp [mo_fi, mo_ad])) (fun ad J hI => ?_)
  refine aw_aload_n dM_init_72 rfl ?_
  refine aw_bipush (v := 41) dM_init_73 (by decide) ?_
  refine aw_newI (N := 41) (kc' := kc - 9) (ks' := ks - 6121) dM_init_75 wP_I (by decide) (by decide) (by decide) (by omega) (by omega) (fun q hq => ?_)
  refine aw_putF dM_init_77 sM_35 rfl ((aw_up_n (mo_anf hI.1 hq)).trans hI.1) rfl rfl (Nat.le_of_ble_eq_true rfl) ?_
  refine mo_gw (hI.nw (j := 9) hq hJb (by first | rfl | (show _ = mo_arr G mo_z 9; simp [mo_arr, mo_kd, mo_len, mo_z, ← iI_z0])) (by first | rfl | simp [mo_fi, mo_ad])) (fun ad J hI => ?_)
  refine aw_aload_n dM_init_80 rfl ?_
  refine aw_bipush (v := 41) dM_init_81 (by decide) ?_
  refine aw_newJ (N := 41) (kc' := kc - 10) (ks' := ks - 6162) dM_init_83 wP_J (by decide) (by decide) (by decide) (by omega) (by omega) (fun q hq => ?_)
  refine aw_putF dM_init_85 sM_38 rfl ((aw_up_n (mo_anf hI.1 hq)).trans hI.1) rfl rfl (Nat.le_of_ble_eq_true rfl) ?_
  refine mo_gw (hI.nw (j := 10) hq hJb (by first | rfl | (show _ = mo_arr G mo_z 10; simp [mo_arr, mo_kd, mo_len, mo_z, ← iI_z0])) (by first | rfl | simp [mo_fi, mo_ad])) (fun ad J hI => ?_)
  refine aw_aload_n dM_init_88 rfl ?_
  refine aw_bipush (v := 41) dM_init_89 (by decide) ?_
  refine aw_newJ (N := 41) (kc' := kc - 11) (ks' := ks - 6203) dM_init_91 wP_J (by decide) (by decide) (by decide) (by omega) (by omega) (fun q hq => ?_)
  refine aw_putF dM_init_93 sM_42 rfl ((aw_up_n (mo_anf hI.1 hq)).trans hI.1) rfl rfl (Nat.le_of_ble_eq_true rfl) ?_
  refine mo_gw (hI.nw (j := 11) hq hJb (by first | rfl | (show _ = mo_arr G mo_z 11; simp [mo_arr, mo_kd, mo_len, mo_z, ← iI_z0])) (by first | rfl | simp [mo_fi, mo_ad])) (fun ad J hI => ?_)
  refine aw_aload_n dM_init_96 rfl ?_
  refine ai_iconst dM_init_97 ?_
  refine aw_put dM_init_98 sM_45 hI.1 rfl rfl (Nat.le_of_ble_eq_true rfl) ?_
  refine mo_gw (hI.nu (j := 12) rfl (by first | rfl | simp [mo_fi, mo_z])) (fun ad J hI => ?_)
  refine aw_aload_n dM_init_101 rfl ?_
  refine aw_bipush (v := 12) dM_init_102 (by decide) ?_
  refine aw_newI (N := 12) (kc' := kc - 12) (ks' := ks - 6215) dM_init_104 wP_I (by decide) (by decide) (by decide) (by omega) (by omega) (fun q hq => ?_)
  refine aw_putF dM_init_106 sM_49 rfl ((aw_up_n (mo_anf hI.1 hq)).trans hI.1) rfl rfl (Nat.le_of_ble_eq_true rfl) ?_
  refine mo_gw (hI.nw (j := 13) hq hJb (by first | rfl | (show _ = mo_arr G mo_z 13; simp [mo_arr, mo_kd, mo_len, mo_z, ← iI_z0])) (by first | rfl | simp [mo_fi, mo_ad])) (fun ad J hI => ?_)
  refine aw_aload_n dM_init_109 rfl ?_
  refine aw_bipush (v := 12) dM_init_110 (by decide) ?_
  refine aw_newI (N := 12) (kc' := kc - 13) (ks' := ks - 6227) dM_init_112 wP_I (by decide) (by decide) (by decide) (by omega) (by omega) (fun q hq => ?_)
  refine aw_putF dM_init_114 sM_52 rfl ((aw_up_n (mo_anf hI.1 hq)).trans hI.1) rfl rfl (Nat.le_of_ble_eq_true rfl) ?_
  refine mo_gw (hI.nw (j := 14) hq hJb (by first | rfl | (show _ = mo_arr G mo_z 14; simp [mo_arr, mo_kd, mo_len, mo_z, ← iI_z0])) (by first | rfl | simp [mo_fi, mo_ad])) (fun ad J hI => ?_)
  refine aw_aload_n dM_init_117 rfl ?_
  refine aw_bipush (v := 96) dM_init_118 (by decide) ?_
  refine aw_newI (N := 96) (kc' := kc - 14) (ks' := ks - 6323) dM_init_120 wP_I (by decide) (by decide) (by decide) (by omega) (by omega) (fun q hq => ?_)
  refine aw_putF dM_init_122 sM_55 rfl ((aw_up_n (mo_anf hI.1 hq)).trans hI.1) rfl rfl (Nat.le_of_ble_eq_true rfl) ?_
  refine mo_gw (hI.nw (j := 15) hq hJb (by first | rfl | (show _ = mo_arr G mo_z 15; simp [mo_arr, mo_kd, mo_len, mo_z, ← iI_z0])) (by first | rfl | simp [mo_fi, mo_ad])) (fun ad J hI => ?_)
  refine aw_aload_n dM_init_125 rfl ?_
  refine aw_bipush (v := 24) dM_init_126 (by decide) ?_
  refine aw_newI (N := 24) (kc' := kc - 15) (ks' := ks - 6347) dM_init_128 wP_I (by decide) (by decide) (by decide) (by omega) (by omega) (fun q hq => ?_)
  refine aw_putF dM_init_130 sM_58 rfl ((aw_up_n (mo_anf hI.1 hq)).trans hI.1) rfl rfl (Nat.le_of_ble_eq_true rfl) ?_
  refine mo_gw (hI.nw (j := 16) hq hJb (by first | rfl | (show _ = mo_arr G mo_z 16; simp [mo_arr, mo_kd, mo_len, mo_z, ← iI_z0])) (by first | rfl | simp [mo_fi, mo_ad])) (fun ad J hI => ?_)
  refine aw_aload_n dM_init_133 rfl ?_
  refine aw_bipush (v := 12) dM_init_134 (by decide) ?_
  refine aw_newZ (N := 12) (kc' := kc - 16) (ks' := ks - 6359) dM_init_136 wP_Z (by decide) (by decide) (by decide) (by omega) (by omega) (fun q hq => ?_)
  refine aw_putF dM_init_138 sM_61 rfl ((aw_up_n (mo_anf hI.1 hq)).trans hI.1) rfl rfl (Nat.le_of_ble_eq_true rfl) ?_
  refine mo_gw (hI.nw (j := 17) hq hJb (by first | rfl | (show _ = mo_arr G mo_z 17; simp [mo_arr, mo_kd, mo_len, mo_z, ← iI_z0])) (by first | rfl | simp [mo_fi, mo_ad])) (fun ad J hI => ?_)
  refine aw_aload_n dM_init_141 rfl ?_
  refine aw_bipush (v := 12) dM_init_142 (by decide) ?_
  refine aw_newI (N := 12) (kc' := kc - 17) (ks' := ks - 6371) dM_init_144 wP_I (by decide) (by decide) (by decide) (by omega) (by omega) (fun q hq => ?_)
  refine aw_putF dM_init_146 sM_64 rfl ((aw_up_n (mo_anf hI.1 hq)).trans hI.1) rfl rfl (Nat.le_of_ble_eq_true rfl) ?_
  refine mo_gw (hI.nw (j := 18) hq hJb (by first | rfl | (show _ = mo_arr G mo_z 18; simp [mo_arr, mo_kd, mo_len, mo_z, ← iI_z0])) (by first | rfl | simp [mo_fi, mo_ad])) (fun ad J hI => ?_)
  refine aw_aload_n dM_init_149 rfl ?_
  refine aw_bipush (v := 12) dM_init_150 (by decide) ?_
  refine aw_newJ (N := 12) (kc' := kc - 18) (ks' := ks - 6383) dM_init_152 wP_J (by decide) (by decide) (by decide) (by omega) (by omega) (fun q hq => ?_)
  refine aw_putF dM_init_154 sM_67 rfl ((aw_up_n (mo_anf hI.1 hq)).trans hI.1) rfl rfl (Nat.le_of_ble_eq_true rfl) ?_
  refine mo_gw (hI.nw (j := 19) hq hJb (by first | rfl | (show _ = mo_arr G mo_z 19; simp [mo_arr, mo_kd, mo_len, mo_z, ← iI_z0])) (by first | rfl | simp [mo_fi, mo_ad])) (fun ad J hI => ?_)
  refine aw_aload_n dM_init_157 rfl ?_
  refine aw_bipush (v := 12) dM_init_158 (by decide) ?_
  refine aw_newJ (N := 12) (kc' := kc - 19) (ks' := ks - 6395) dM_init_160 wP_J (by decide) (by decide) (by decide) (by omega) (by omega) (fun q hq => ?_)
  refine aw_putF dM_init_162 sM_70 rfl ((aw_up_n (mo_anf hI.1 hq)).trans hI.1) rfl rfl (Nat.le_of_ble_eq_true rfl) ?_
  refine mo_gw (hI.nw (j := 20) hq hJb (by first | rfl | (show _ = mo_arr G mo_z 20; simp [mo_arr, mo_kd, mo_len, mo_z, ← iI_z0])) (by first | rfl | simp [mo_fi, mo_ad])) (fun ad J hI => ?_)
  refine aw_aload_n dM_init_165 rfl ?_
  refine aw_bipush (v := 36) dM_init_166 (by decide) ?_
  refine aw_newI (N := 36) (kc' := kc - 20) (ks' := ks - 6431) dM_init_168 wP_I (by decide) (by decide) (by decide) (by omega) (by omega) (fun q hq => ?_)
  refine aw_putF dM_init_170 sM_73 rfl ((aw_up_n (mo_anf hI.1 hq)).trans hI.1) rfl rfl (Nat.le_of_ble_eq_true rfl) ?_
  refine mo_gw (hI.nw (j := 21) hq hJb (by first | rfl | (show _ = mo_arr G mo_z 21; simp [mo_arr, mo_kd, mo_len, mo_z, ← iI_z0])) (by first | rfl | simp [mo_fi, mo_ad])) (fun ad J hI => ?_)
  refine aw_aload_n dM_init_173 rfl ?_
  refine aw_bipush (v := 96) dM_init_174 (by decide) ?_
  refine aw_newI (N := 96) (kc' := kc - 21) (ks' := ks - 6527) dM_init_176 wP_I (by decide) (by decide) (by decide) (by omega) (by omega) (fun q hq => ?_)
  refine aw_putF dM_init_178 sM_76 rfl ((aw_up_n (mo_anf hI.1 hq)).trans hI.1) rfl rfl (Nat.le_of_ble_eq_true rfl) ?_
  refine mo_gw (hI.nw (j := 22) hq hJb (by first | rfl | (show _ = mo_arr G mo_z 22; simp [mo_arr, mo_kd, mo_len, mo_z, ← iI_z0])) (by first | rfl | simp [mo_fi, mo_ad])) (fun ad J hI => ?_)
  refine aw_aload_n dM_init_181 rfl ?_
  refine aw_bipush (v := 12) dM_init_182 (by decide) ?_
  refine aw_newI (N := 12) (kc' := kc - 22) (ks' := ks - 6539) dM_init_184 wP_I (by decide) (by decide) (by decide) (by omega) (by omega) (fun q hq => ?_)
  refine aw_putF dM_init_186 sM_79 rfl ((aw_up_n (mo_anf hI.1 hq)).trans hI.1) rfl rfl (Nat.le_of_ble_eq_true rfl) ?_
  refine mo_gw (hI.nw (j := 23) hq hJb (by first | rfl | (show _ = mo_arr G mo_z 23; simp [mo_arr, mo_kd, mo_len, mo_z, ← iI_z0])) (by first | rfl | simp [mo_fi, mo_ad])) (fun ad J hI => ?_)
  refine aw_aload_n dM_init_189 rfl ?_
  refine ai_bipush dM_init_190 (by decide +kernel) ?_
  refine aw_put dM_init_192 sM_82 hI.1 rfl rfl (Nat.le_of_ble_eq_true rfl) ?_
  refine mo_gw (hI.nu (j := 24) rfl (by first | rfl | simp [mo_fi, mo_z])) (fun ad J hI => ?_)
  refine aw_aload_n dM_init_195 rfl ?_
  refine aw_bipush (v := 120) dM_init_196 (by decide) ?_
  refine aw_newI (N := 120) (kc' := kc - 23) (ks' := ks - 6659) dM_init_198 wP_I (by decide) (by decide) (by decide) (by omega) (by omega) (fun q hq => ?_)
  refine aw_putF dM_init_200 sM_85 rfl ((aw_up_n (mo_anf hI.1 hq)).trans hI.1) rfl rfl (Nat.le_of_ble_eq_true rfl) ?_
  refine mo_gw (hI.nw (j := 25) hq hJb (by first | rfl | (show _ = mo_arr G mo_z 25; simp [mo_arr, mo_kd, mo_len, mo_z, ← iI_z0])) (by first | rfl | simp [mo_fi, mo_ad])) (fun ad J hI => ?_)
  refine aw_aload_n dM_init_203 rfl ?_
  refine aw_bipush (v := 120) dM_init_204 (by decide) ?_
  refine aw_newI (N := 120) (kc' := kc - 24) (ks' := ks - 6779) dM_init_206 wP_I (by decide) (by decide) (by decide) (by omega) (by omega) (fun q hq => ?_)
  refine aw_putF dM_init_208 sM_88 rfl ((aw_up_n (mo_anf hI.1 hq)).trans hI.1) rfl rfl (Nat.le_of_ble_eq_true rfl) ?_
  refine mo_gw (hI.nw (j := 26) hq hJb (by first | rfl | (show _ = mo_arr G mo_z 26; simp [mo_arr, mo_kd, mo_len, mo_z, ← iI_z0])) (by first | rfl | simp [mo_fi, mo_ad])) (fun ad J hI => ?_)
  refine aw_aload_n dM_init_211 rfl ?_
  refine aw_bipush (v := 120) dM_init_212 (by decide) ?_
  refine aw_newI (N := 120) (kc' := kc - 25) (ks' := ks - 6899) dM_init_214 wP_I (by decide) (by decide) (by decide) (by omega) (by omega) (fun q hq => ?_)
  refine aw_putF dM_init_216 sM_91 rfl ((aw_up_n (mo_anf hI.1 hq)).trans hI.1) rfl rfl (Nat.le_of_ble_eq_true rfl) ?_
  refine mo_gw (hI.nw (j := 27) hq hJb (by first | rfl | (show _ = mo_arr G mo_z 27; simp [mo_arr, mo_kd, mo_len, mo_z, ← iI_z0])) (by first | rfl | simp [mo_fi, mo_ad])) (fun ad J hI => ?_)
  refine aw_aload_n dM_init_219 rfl ?_
  refine aw_bipush (v := 120) dM_init_220 (by decide) ?_
  refine aw_newI (N := 120) (kc' := kc - 26) (ks' := ks - 7019) dM_init_222 wP_I (by decide) (by decide) (by decide) (by omega) (by omega) (fun q hq => ?_)
  refine aw_putF dM_init_224 sM_94 rfl ((aw_up_n (mo_anf hI.1 hq)).trans hI.1) rfl rfl (Nat.le_of_ble_eq_true rfl) ?_
  refine mo_gw (hI.nw (j := 28) hq hJb (by first | rfl | (show _ = mo_arr G mo_z 28; simp [mo_arr, mo_kd, mo_len, mo_z, ← iI_z0])) (by first | rfl | simp [mo_fi, mo_ad])) (fun ad J hI => ?_)
  refine aw_aload_n dM_init_227 rfl ?_
  refine aw_bipush (v := 8) dM_init_228 (by decide) ?_
  refine aw_newI (N := 8) (kc' := kc - 27) (ks' := ks - 7027) dM_init_230 wP_I (by decide) (by decide) (by decide) (by omega) (by omega) (fun q hq => ?_)
  have hI := hI.sk rfl (mo_fi_sk _).2.1
  have hI := hI.sk rfl (mo_fi_sk _).2.2
  refine aw_putF dM_init_232 sM_97 rfl ((aw_up_n (mo_anf hI.1 hq)).trans hI.1) rfl rfl (Nat.le_of_ble_eq_true rfl) ?_
  refine mo_gw (hI.nw (j := 31) hq hJb (by first | rfl | (show _ = mo_arr G mo_z 31; simp [mo_arr, mo_kd, mo_len, mo_z, ← iI_z0])) (by first | rfl | simp [mo_fi, mo_ad])) (fun ad J hI => ?_)
  refine aw_aload_n dM_init_235 rfl ?_
  refine aw_bipush (v := 8) dM_init_236 (by decide) ?_
  refine aw_newI (N := 8) (kc' := kc - 28) (ks' := ks - 7035) dM_init_238 wP_I (by decide) (by decide) (by decide) (by omega) (by omega) (fun q hq => ?_)
  refine aw_putF dM_init_240 sM_100 rfl ((aw_up_n (mo_anf hI.1 hq)).trans hI.1) rfl rfl (Nat.le_of_ble_eq_true rfl) ?_
  refine mo_gw (hI.nw (j := 32) hq hJb (by first | rfl | (show _ = mo_arr G mo_z 32; simp [mo_arr, mo_kd, mo_len, mo_z, ← iI_z0])) (by first | rfl | simp [mo_fi, mo_ad])) (fun ad J hI => ?_)
  exact hz ad J hI
end MO17
