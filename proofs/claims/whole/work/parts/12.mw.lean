/-! the reference: its state (numbers, int arrays, long arrays), its picture in the heap, the judgement mw over it -/
abbrev mo_S : Type := (Nat → Int) × (Nat → Int → Int) × (Nat → Int → Int64)
def mo_fs (ad : Nat → Nat) (s : mo_S) : List Value := [.int (iI (s.1 0)), .ref (ad 1), .ref (ad 2), .ref (ad 3), .ref (ad 4), .ref (ad 5), .ref (ad 6), .ref (ad 7), .ref (ad 8), .ref (ad 9), .ref (ad 10), .ref (ad 11), .int (iI (s.1 12)), .ref (ad 13), .ref (ad 14), .ref (ad 15), .ref (ad 16), .ref (ad 17), .ref (ad 18), .ref (ad 19), .ref (ad 20), .ref (ad 21), .ref (ad 22), .ref (ad 23), .int (iI (s.1 24)), .ref (ad 25), .ref (ad 26), .ref (ad 27), .ref (ad 28), .int (iI (s.1 29)), .int (iI (s.1 30)), .ref (ad 31), .ref (ad 32)]
def mo_isA (k : Nat) : Bool := match k with
  | 0 => false
  | 12 => false
  | 24 => false
  | 29 => false
  | 30 => false
  | k => decide (k < 33)
def mo_len (k : Nat) : Nat := match k with
  | 1 => 174
  | 2 => 4176
  | 3 => 174
  | 4 => 1392
  | 5 => 41
  | 6 => 41
  | 7 => 41
  | 8 => 41
  | 9 => 41
  | 10 => 41
  | 11 => 41
  | 13 => 12
  | 14 => 12
  | 15 => 96
  | 16 => 24
  | 17 => 12
  | 18 => 12
  | 19 => 12
  | 20 => 12
  | 21 => 36
  | 22 => 96
  | 23 => 12
  | 25 => 120
  | 26 => 120
  | 27 => 120
  | 28 => 120
  | 31 => 8
  | 32 => 8
  | _ => 0
def mo_kd (k : Nat) : Nat := match k with
  | 5 => 1
  | 10 => 2
  | 11 => 2
  | 17 => 1
  | 19 => 2
  | 20 => 2
  | _ => 0
def mo_arr (G : aw_G) (s : mo_S) (k : Nat) : va_E := match mo_kd k with
  | 0 => .inl (G.2.2.1 0, mo_len k, .inl (fun j => iI (s.2.1 k (j : Int))))
  | 1 => .inl (G.2.2.1 1, mo_len k, .inl (fun j => iI (s.2.1 k (j : Int))))
  | _ => .inl (G.2.2.1 2, mo_len k, .inr (.inl (fun j => s.2.2 k (j : Int))))
theorem mo_arr_i {G : aw_G} {s : mo_S} {k : Nat} (h : mo_kd k = 0) : mo_arr G s k = .inl (G.2.2.1 0, mo_len k, .inl (fun j => iI (s.2.1 k (j : Int)))) := by unfold mo_arr; rw [h]; rfl
theorem mo_arr_z {G : aw_G} {s : mo_S} {k : Nat} (h : mo_kd k = 1) : mo_arr G s k = .inl (G.2.2.1 1, mo_len k, .inl (fun j => iI (s.2.1 k (j : Int)))) := by unfold mo_arr; rw [h]; rfl
theorem mo_arr_j {G : aw_G} {s : mo_S} {k : Nat} (h : mo_kd k = 2) : mo_arr G s k = .inl (G.2.2.1 2, mo_len k, .inr (.inl (fun j => s.2.2 k (j : Int)))) := by unfold mo_arr; rw [h]; rfl
def mo_P (G : aw_G) (b : Nat) (ad : Nat → Nat) (s : mo_S) (J : aw_J) : Prop := J b = some (.inr (9, mo_fs ad s)) ∧ (∀ k, mo_isA k = true → J (ad k) = some (mo_arr G s k)) ∧ (∀ j k, mo_isA j = true → mo_isA k = true → ad j = ad k → j = k) ∧ (∀ k, iB (s.1 k)) ∧ ∀ k i, iB (s.2.1 k i)
def mo_F (b : Nat) (ad : Nat → Nat) (J J' : aw_J) : Prop := ∀ a, a ≠ b → (∀ k, mo_isA k = true → a ≠ ad k) → J' a = J a
theorem mo_F.rf {b : Nat} {ad : Nat → Nat} {J : aw_J} : mo_F b ad J J := fun _ _ _ => rfl
theorem mo_F.tr {b : Nat} {ad : Nat → Nat} {J J1 J2 : aw_J} (h : mo_F b ad J J1) (h2 : mo_F b ad J1 J2) : mo_F b ad J J2 := fun a h3 h4 => (h2 a h3 h4).trans (h a h3 h4)
theorem mo_ne {G : aw_G} {b : Nat} {ad : Nat → Nat} {s : mo_S} {J : aw_J} (h : mo_P G b ad s J) {k : Nat} (hk : mo_isA k = true) : ad k ≠ b := by
  intro e
  have h1 := h.2.1 k hk
  rw [e, h.1] at h1
  have h2 := Option.some.inj h1
  unfold mo_arr at h2
  split at h2 <;> cases h2
/-- one int of an array, one number, one long is written -/
def mo_uf (s : mo_S) (k : Nat) (i x : Int) : mo_S := (s.1, fun k' i' => if k' = k ∧ i' = i then x else s.2.1 k' i', s.2.2)
def mo_uz (s : mo_S) (k : Nat) (x : Int) : mo_S := (fun k' => if k' = k then x else s.1 k', s.2)
def mo_ug (s : mo_S) (k : Nat) (i : Int) (x : Int64) : mo_S := (s.1, s.2.1, fun k' i' => if k' = k ∧ i' = i then x else s.2.2 k' i')
theorem mo_P.cell {G : aw_G} {b : Nat} {ad : Nat → Nat} {s s' : mo_S} {J : aw_J} (h : mo_P G b ad s J) {k : Nat} (hk : mo_isA k = true) (hz : s'.1 = s.1) (hf : ∀ k', k' ≠ k → s'.2.1 k' = s.2.1 k' ∧ s'.2.2 k' = s.2.2 k') (hb : ∀ k i, iB (s'.2.1 k i)) : mo_P G b ad s' (aw_up J (ad k) (mo_arr G s' k)) := by
  refine ⟨?_, fun j hj => ?_, h.2.2.1, by rw [hz]; exact h.2.2.2.1, hb⟩
  · rw [aw_up_n (mo_ne h hk).symm, h.1]
    unfold mo_fs
    rw [hz]
  · by_cases e : j = k
    · subst e; exact aw_up_s
    · rw [aw_up_n (fun z => e (h.2.2.1 j k hj hk z)), h.2.1 j hj]
      unfold mo_arr
      rw [(hf j e).1, (hf j e).2]
theorem mo_F.cell {b : Nat} {ad : Nat → Nat} {J : aw_J} {e : va_E} {k : Nat} (hk : mo_isA k = true) : mo_F b ad J (aw_up J (ad k) e) := fun a _ h => aw_up_n (h k hk)
theorem mo_fs_set (ad : Nat → Nat) (s : mo_S) (k : Nat) (x : Int) (hk : k < 33) (hi : mo_isA k = false) : (mo_fs ad s).set k (.int (iI x)) = mo_fs ad (mo_uz s k x) := by
  have : k = 0 ∨ k = 12 ∨ k = 24 ∨ k = 29 ∨ k = 30 := by
    match k, hk, hi with
    | 0, _, hi => simp
    | 1, _, hi => exact absurd hi (by decide)
    | 2, _, hi => exact absurd hi (by decide)
    | 3, _, hi => exact absurd hi (by decide)
    | 4, _, hi => exact absurd hi (by decide)
    | 5, _, hi => exact absurd hi (by decide)
    | 6, _, hi => exact absurd hi (by decide)
    | 7, _, hi => exact absurd hi (by decide)
    | 8, _, hi => exact absurd hi (by decide)
    | 9, _, hi => exact absurd hi (by decide)
    | 10, _, hi => exact absurd hi (by decide)
    | 11, _, hi => exact absurd hi (by decide)
    | 12, _, hi => simp
    | 13, _, hi => exact absurd hi (by decide)
    | 14, _, hi => exact absurd hi (by decide)
    | 15, _, hi => exact absurd hi (by decide)
    | 16, _, hi => exact absurd hi (by decide)
    | 17, _, hi => exact absurd hi (by decide)
    | 18, _, hi => exact absurd hi (by decide)
    | 19, _, hi => exact absurd hi (by decide)
    | 20, _, hi => exact absurd hi (by decide)
    | 21, _, hi => exact absurd hi (by decide)
    | 22, _, hi => exact absurd hi (by decide)
    | 23, _, hi => exact absurd hi (by decide)
    | 24, _, hi => simp
    | 25, _, hi => exact absurd hi (by decide)
    | 26, _, hi => exact absurd hi (by decide)
    | 27, _, hi => exact absurd hi (by decide)
    | 28, _, hi => exact absurd hi (by decide)
    | 29, _, hi => simp
    | 30, _, hi => simp
    | 31, _, hi => exact absurd hi (by decide)
    | 32, _, hi => exact absurd hi (by decide)
    | k + 33, hk, _ => exact absurd hk (by omega)
  rcases this with rfl | rfl | rfl | rfl | rfl <;> rfl
theorem mo_P.num {G : aw_G} {b : Nat} {ad : Nat → Nat} {s : mo_S} {J : aw_J} (h : mo_P G b ad s J) {k : Nat} {x : Int} (hk : k < 33) (hi : mo_isA k = false) (hx : iB x) : mo_P G b ad (mo_uz s k x) (aw_up J b (.inr (9, (mo_fs ad s).set k (.int (iI x))))) := by
  refine ⟨by rw [aw_up_s, mo_fs_set ad s k x hk hi], fun j hj => ?_, h.2.2.1, fun j => ?_, h.2.2.2.2⟩
  · rw [aw_up_n (mo_ne h hj), h.2.1 j hj]; rfl
  · show iB (if j = k then x else s.1 j)
    split
    · exact hx
    · exact h.2.2.2.1 j
theorem mo_F.num {b : Nat} {ad : Nat → Nat} {J : aw_J} {e : va_E} : mo_F b ad J (aw_up J b e) := fun a h _ => aw_up_n h
/-- THE JUDGEMENT over the reference's state -/
def mw (G : aw_G) (b : Nat) (ad : Nat → Nat) (M : aw_M) (d : Nat) (Q : aw_O → mo_S → Prop) (pc : Nat) (L : List (Option Value)) (st : List Value) (s : mo_S) (kc ks : Nat) : Prop :=
  ∀ (J : aw_J) (Q0 : aw_O → aw_J → Prop), mo_P G b ad s J → (∀ oc s' J', mo_P G b ad s' J' → mo_F b ad J J' → Q oc s' → Q0 oc J') → aw_W G M d Q0 pc L st J kc ks
section MW
variable {G : aw_G} {b : Nat} {ad : Nat → Nat} {M : aw_M} {d : Nat} {Q : aw_O → mo_S → Prop} {pc : Nat} {L : List (Option Value)} {st : List Value} {s : mo_S} {kc ks : Nat}
theorem mw_iconst {n : Int} (hd : decode M.2.1 pc = .ok (.iconst n, 1)) (k : mw G b ad M d Q (pc + 1) L (.int (iI n) :: st) s kc ks) : mw G b ad M d Q pc L st s kc ks := fun J Q0 h hq => ai_iconst hd (k J Q0 h hq)
theorem mw_bipush {n : Int} (hd : decode M.2.1 pc = .ok (.bipush n, 2)) (hv : (Int8.ofInt n).toInt32 = iI n) (k : mw G b ad M d Q (pc + 2) L (.int (iI n) :: st) s kc ks) : mw G b ad M d Q pc L st s kc ks := fun J Q0 h hq => ai_bipush hd hv (k J Q0 h hq)
theorem mw_sipush {n : Int} (hd : decode M.2.1 pc = .ok (.sipush n, 3)) (hv : (Int16.ofInt n).toInt32 = iI n) (k : mw G b ad M d Q (pc + 3) L (.int (iI n) :: st) s kc ks) : mw G b ad M d Q pc L st s kc ks := fun J Q0 h hq => ai_sipush hd hv (k J Q0 h hq)
theorem mw_iadd {x y : Int} (hd : decode M.2.1 pc = .ok (.iadd, 1)) (k : mw G b ad M d Q (pc + 1) L (.int (iI (x + y)) :: st) s kc ks) : mw G b ad M d Q pc L (.int (iI y) :: .int (iI x) :: st) s kc ks := fun J Q0 h hq => ai_iadd hd (k J Q0 h hq)
theorem mw_isub {x y : Int} (hd : decode M.2.1 pc = .ok (.isub, 1)) (k : mw G b ad M d Q (pc + 1) L (.int (iI (x - y)) :: st) s kc ks) : mw G b ad M d Q pc L (.int (iI y) :: .int (iI x) :: st) s kc ks := fun J Q0 h hq => ai_isub hd (k J Q0 h hq)
theorem mw_imul {x y : Int} (hd : decode M.2.1 pc = .ok (.imul, 1)) (k : mw G b ad M d Q (pc + 1) L (.int (iI (x * y)) :: st) s kc ks) : mw G b ad M d Q pc L (.int (iI y) :: .int (iI x) :: st) s kc ks := fun J Q0 h hq => ai_imul hd (k J Q0 h hq)
theorem mw_iinc {i : Nat} {n x : Int} (hd : decode M.2.1 pc = .ok (.iinc i n, 3)) (hl : L[i]? = some (some (.int (iI x)))) (hn : i < M.2.2.1) (ho : aw_ok1 L i = true) (k : mw G b ad M d Q (pc + 3) (L.set i (some (.int (iI (x + n))))) st s kc ks) : mw G b ad M d Q pc L st s kc ks := fun J Q0 h hq => ai_iinc hd hl hn ho (k J Q0 h hq)
theorem mw_if_eq {x : Int} {off : Int} {tgt : Nat} (hd : decode M.2.1 pc = .ok (.ifCond .eq off, 3)) (ht : (pc : Int) + off = (tgt : Int)) (hx : iB x) (kt : x = 0 → mw G b ad M d Q tgt L st s kc ks) (kf : ¬ x = 0 → mw G b ad M d Q (pc + 3) L st s kc ks) : mw G b ad M d Q pc L (.int (iI x) :: st) s kc ks := fun J Q0 h hq => ai_if_eq hd ht hx (fun z => kt z J Q0 h hq) (fun z => kf z J Q0 h hq)
theorem mw_icmp_eq {x y : Int} {off : Int} {tgt : Nat} (hd : decode M.2.1 pc = .ok (.if_icmp .eq off, 3)) (ht : (pc : Int) + off = (tgt : Int)) (hx : iB x) (hy : iB y) (kt : x = y → mw G b ad M d Q tgt L st s kc ks) (kf : ¬ x = y → mw G b ad M d Q (pc + 3) L st s kc ks) : mw G b ad M d Q pc L (.int (iI y) :: .int (iI x) :: st) s kc ks := fun J Q0 h hq => ai_icmp_eq hd ht hx hy (fun z => kt z J Q0 h hq) (fun z => kf z J Q0 h hq)
theorem mw_if_ne {x : Int} {off : Int} {tgt : Nat} (hd : decode M.2.1 pc = .ok (.ifCond .ne off, 3)) (ht : (pc : Int) + off = (tgt : Int)) (hx : iB x) (kt : ¬ x = 0 → mw G b ad M d Q tgt L st s kc ks) (kf : x = 0 → mw G b ad M d Q (pc + 3) L st s kc ks) : mw G b ad M d Q pc L (.int (iI x) :: st) s kc ks := fun J Q0 h hq => ai_if_ne hd ht hx (fun z => kt z J Q0 h hq) (fun z => kf z J Q0 h hq)
theorem mw_icmp_ne {x y : Int} {off : Int} {tgt : Nat} (hd : decode M.2.1 pc = .ok (.if_icmp .ne off, 3)) (ht : (pc : Int) + off = (tgt : Int)) (hx : iB x) (hy : iB y) (kt : ¬ x = y → mw G b ad M d Q tgt L st s kc ks) (kf : x = y → mw G b ad M d Q (pc + 3) L st s kc ks) : mw G b ad M d Q pc L (.int (iI y) :: .int (iI x) :: st) s kc ks := fun J Q0 h hq => ai_icmp_ne hd ht hx hy (fun z => kt z J Q0 h hq) (fun z => kf z J Q0 h hq)
theorem mw_if_lt {x : Int} {off : Int} {tgt : Nat} (hd : decode M.2.1 pc = .ok (.ifCond .lt off, 3)) (ht : (pc : Int) + off = (tgt : Int)) (hx : iB x) (kt : x < 0 → mw G b ad M d Q tgt L st s kc ks) (kf : 0 ≤ x → mw G b ad M d Q (pc + 3) L st s kc ks) : mw G b ad M d Q pc L (.int (iI x) :: st) s kc ks := fun J Q0 h hq => ai_if_lt hd ht hx (fun z => kt z J Q0 h hq) (fun z => kf z J Q0 h hq)
theorem mw_icmp_lt {x y : Int} {off : Int} {tgt : Nat} (hd : decode M.2.1 pc = .ok (.if_icmp .lt off, 3)) (ht : (pc : Int) + off = (tgt : Int)) (hx : iB x) (hy : iB y) (kt : x < y → mw G b ad M d Q tgt L st s kc ks) (kf : y ≤ x → mw G b ad M d Q (pc + 3) L st s kc ks) : mw G b ad M d Q pc L (.int (iI y) :: .int (iI x) :: st) s kc ks := fun J Q0 h hq => ai_icmp_lt hd ht hx hy (fun z => kt z J Q0 h hq) (fun z => kf z J Q0 h hq)
theorem mw_if_ge {x : Int} {off : Int} {tgt : Nat} (hd : decode M.2.1 pc = .ok (.ifCond .ge off, 3)) (ht : (pc : Int) + off = (tgt : Int)) (hx : iB x) (kt : 0 ≤ x → mw G b ad M d Q tgt L st s kc ks) (kf : x < 0 → mw G b ad M d Q (pc + 3) L st s kc ks) : mw G b ad M d Q pc L (.int (iI x) :: st) s kc ks := fun J Q0 h hq => ai_if_ge hd ht hx (fun z => kt z J Q0 h hq) (fun z => kf z J Q0 h hq)
theorem mw_icmp_ge {x y : Int} {off : Int} {tgt : Nat} (hd : decode M.2.1 pc = .ok (.if_icmp .ge off, 3)) (ht : (pc : Int) + off = (tgt : Int)) (hx : iB x) (hy : iB y) (kt : y ≤ x → mw G b ad M d Q tgt L st s kc ks) (kf : x < y → mw G b ad M d Q (pc + 3) L st s kc ks) : mw G b ad M d Q pc L (.int (iI y) :: .int (iI x) :: st) s kc ks := fun J Q0 h hq => ai_icmp_ge hd ht hx hy (fun z => kt z J Q0 h hq) (fun z => kf z J Q0 h hq)
theorem mw_if_gt {x : Int} {off : Int} {tgt : Nat} (hd : decode M.2.1 pc = .ok (.ifCond .gt off, 3)) (ht : (pc : Int) + off = (tgt : Int)) (hx : iB x) (kt : 0 < x → mw G b ad M d Q tgt L st s kc ks) (kf : x ≤ 0 → mw G b ad M d Q (pc + 3) L st s kc ks) : mw G b ad M d Q pc L (.int (iI x) :: st) s kc ks := fun J Q0 h hq => ai_if_gt hd ht hx (fun z => kt z J Q0 h hq) (fun z => kf z J Q0 h hq)
theorem mw_icmp_gt {x y : Int} {off : Int} {tgt : Nat} (hd : decode M.2.1 pc = .ok (.if_icmp .gt off, 3)) (ht : (pc : Int) + off = (tgt : Int)) (hx : iB x) (hy : iB y) (kt : y < x → mw G b ad M d Q tgt L st s kc ks) (kf : x ≤ y → mw G b ad M d Q (pc + 3) L st s kc ks) : mw G b ad M d Q pc L (.int (iI y) :: .int (iI x) :: st) s kc ks := fun J Q0 h hq => ai_icmp_gt hd ht hx hy (fun z => kt z J Q0 h hq) (fun z => kf z J Q0 h hq)
theorem mw_if_le {x : Int} {off : Int} {tgt : Nat} (hd : decode M.2.1 pc = .ok (.ifCond .le off, 3)) (ht : (pc : Int) + off = (tgt : Int)) (hx : iB x) (kt : x ≤ 0 → mw G b ad M d Q tgt L st s kc ks) (kf : 0 < x → mw G b ad M d Q (pc + 3) L st s kc ks) : mw G b ad M d Q pc L (.int (iI x) :: st) s kc ks := fun J Q0 h hq => ai_if_le hd ht hx (fun z => kt z J Q0 h hq) (fun z => kf z J Q0 h hq)
theorem mw_icmp_le {x y : Int} {off : Int} {tgt : Nat} (hd : decode M.2.1 pc = .ok (.if_icmp .le off, 3)) (ht : (pc : Int) + off = (tgt : Int)) (hx : iB x) (hy : iB y) (kt : x ≤ y → mw G b ad M d Q tgt L st s kc ks) (kf : y < x → mw G b ad M d Q (pc + 3) L st s kc ks) : mw G b ad M d Q pc L (.int (iI y) :: .int (iI x) :: st) s kc ks := fun J Q0 h hq => ai_icmp_le hd ht hx hy (fun z => kt z J Q0 h hq) (fun z => kf z J Q0 h hq)
theorem mw_lconst {n : Fin 2} {v : Int64} (hd : decode M.2.1 pc = .ok (.lconst n, 1)) (hv : Int64.ofNat (n : Nat) = v) (k : mw G b ad M d Q (pc + 1) L (.long v :: st) s kc ks) : mw G b ad M d Q pc L st s kc ks := fun J Q0 h hq => aw_lconst hd hv (k J Q0 h hq)
theorem mw_dup {v : Value} (hd : decode M.2.1 pc = .ok (.dup, 1)) (hv : v.category = 1) (k : mw G b ad M d Q (pc + 1) L (v :: v :: st) s kc ks) : mw G b ad M d Q pc L (v :: st) s kc ks := fun J Q0 h hq => aw_dup hd hv (k J Q0 h hq)
theorem mw_pop {v : Value} (hd : decode M.2.1 pc = .ok (.pop, 1)) (hv : v.category = 1) (k : mw G b ad M d Q (pc + 1) L st s kc ks) : mw G b ad M d Q pc L (v :: st) s kc ks := fun J Q0 h hq => aw_pop hd hv (k J Q0 h hq)
theorem mw_dup2 {v w : Value} (hd : decode M.2.1 pc = .ok (.dup2, 1)) (hv : v.category = 1) (hw : w.category = 1) (k : mw G b ad M d Q (pc + 1) L (v :: w :: v :: w :: st) s kc ks) : mw G b ad M d Q pc L (v :: w :: st) s kc ks := fun J Q0 h hq => aw_dup2 hd hv hw (k J Q0 h hq)
theorem mw_dup_x1 {v w : Value} (hd : decode M.2.1 pc = .ok (.dup_x1, 1)) (hv : v.category = 1) (hw : w.category = 1) (k : mw G b ad M d Q (pc + 1) L (v :: w :: v :: st) s kc ks) : mw G b ad M d Q pc L (v :: w :: st) s kc ks := fun J Q0 h hq => aw_dup_x1 hd hv hw (k J Q0 h hq)
theorem mw_ishr {x y : Int32} (hd : decode M.2.1 pc = .ok (.ishr, 1)) (k : mw G b ad M d Q (pc + 1) L (.int (x >>> (y &&& 31)) :: st) s kc ks) : mw G b ad M d Q pc L (.int y :: .int x :: st) s kc ks := fun J Q0 h hq => aw_ishr hd (k J Q0 h hq)
theorem mw_iand {x y : Int32} (hd : decode M.2.1 pc = .ok (.iand, 1)) (k : mw G b ad M d Q (pc + 1) L (.int (x &&& y) :: st) s kc ks) : mw G b ad M d Q pc L (.int y :: .int x :: st) s kc ks := fun J Q0 h hq => aw_iand hd (k J Q0 h hq)
theorem mw_lshr {x : Int64} {y : Int32} (hd : decode M.2.1 pc = .ok (.lshr, 1)) (k : mw G b ad M d Q (pc + 1) L (.long (x >>> (y.toInt64 &&& 63)) :: st) s kc ks) : mw G b ad M d Q pc L (.int y :: .long x :: st) s kc ks := fun J Q0 h hq => aw_lshr hd (k J Q0 h hq)
theorem mw_land {x y : Int64} (hd : decode M.2.1 pc = .ok (.land, 1)) (k : mw G b ad M d Q (pc + 1) L (.long (x &&& y) :: st) s kc ks) : mw G b ad M d Q pc L (.long y :: .long x :: st) s kc ks := fun J Q0 h hq => aw_land hd (k J Q0 h hq)
theorem mw_lcmp {x y : Int64} (hd : decode M.2.1 pc = .ok (.lcmp, 1)) (k : mw G b ad M d Q (pc + 1) L (.int (lg_cmp x y) :: st) s kc ks) : mw G b ad M d Q pc L (.long y :: .long x :: st) s kc ks := fun J Q0 h hq => aw_lcmp hd (k J Q0 h hq)
theorem mw_rif_eq {x : Int32} {off : Int} {tgt : Nat} (hd : decode M.2.1 pc = .ok (.ifCond .eq off, 3)) (ht : (pc : Int) + off = (tgt : Int)) (kt : x = 0 → mw G b ad M d Q tgt L st s kc ks) (kf : ¬ x = 0 → mw G b ad M d Q (pc + 3) L st s kc ks) : mw G b ad M d Q pc L (.int x :: st) s kc ks := fun J Q0 h hq => aw_if_eq hd ht (fun z => kt z J Q0 h hq) (fun z => kf z J Q0 h hq)
theorem mw_ricmp_eq {x y : Int32} {off : Int} {tgt : Nat} (hd : decode M.2.1 pc = .ok (.if_icmp .eq off, 3)) (ht : (pc : Int) + off = (tgt : Int)) (kt : x = y → mw G b ad M d Q tgt L st s kc ks) (kf : ¬ x = y → mw G b ad M d Q (pc + 3) L st s kc ks) : mw G b ad M d Q pc L (.int y :: .int x :: st) s kc ks := fun J Q0 h hq => aw_icmp_eq hd ht (fun z => kt z J Q0 h hq) (fun z => kf z J Q0 h hq)
theorem mw_rif_ne {x : Int32} {off : Int} {tgt : Nat} (hd : decode M.2.1 pc = .ok (.ifCond .ne off, 3)) (ht : (pc : Int) + off = (tgt : Int)) (kt : ¬ x = 0 → mw G b ad M d Q tgt L st s kc ks) (kf : x = 0 → mw G b ad M d Q (pc + 3) L st s kc ks) : mw G b ad M d Q pc L (.int x :: st) s kc ks := fun J Q0 h hq => aw_if_ne hd ht (fun z => kt z J Q0 h hq) (fun z => kf z J Q0 h hq)
theorem mw_ricmp_ne {x y : Int32} {off : Int} {tgt : Nat} (hd : decode M.2.1 pc = .ok (.if_icmp .ne off, 3)) (ht : (pc : Int) + off = (tgt : Int)) (kt : ¬ x = y → mw G b ad M d Q tgt L st s kc ks) (kf : x = y → mw G b ad M d Q (pc + 3) L st s kc ks) : mw G b ad M d Q pc L (.int y :: .int x :: st) s kc ks := fun J Q0 h hq => aw_icmp_ne hd ht (fun z => kt z J Q0 h hq) (fun z => kf z J Q0 h hq)
theorem mw_goto {off : Int} {tgt : Nat} (hd : decode M.2.1 pc = .ok (.goto off, 3)) (ht : (pc : Int) + off = (tgt : Int)) (k : mw G b ad M d Q tgt L st s kc ks) : mw G b ad M d Q pc L st s kc ks := fun J Q0 h hq => aw_goto hd ht (k J Q0 h hq)
theorem mw_iload {i : Nat} {x : Int32} (hd : decode M.2.1 pc = .ok (.iload i, 2)) (hl : L[i]? = some (some (.int x))) (k : mw G b ad M d Q (pc + 2) L (.int x :: st) s kc ks) : mw G b ad M d Q pc L st s kc ks := fun J Q0 h hq => aw_iload hd hl (k J Q0 h hq)
theorem mw_iload_n {n : Fin 4} {x : Int32} (hd : decode M.2.1 pc = .ok (.iload_n n, 1)) (hl : L[(n : Nat)]? = some (some (.int x))) (k : mw G b ad M d Q (pc + 1) L (.int x :: st) s kc ks) : mw G b ad M d Q pc L st s kc ks := fun J Q0 h hq => aw_iload_n hd hl (k J Q0 h hq)
theorem mw_lload {i : Nat} {x : Int64} (hd : decode M.2.1 pc = .ok (.lload i, 2)) (hl : L[i]? = some (some (.long x))) (k : mw G b ad M d Q (pc + 2) L (.long x :: st) s kc ks) : mw G b ad M d Q pc L st s kc ks := fun J Q0 h hq => aw_lload hd hl (k J Q0 h hq)
theorem mw_lload_n {n : Fin 4} {x : Int64} (hd : decode M.2.1 pc = .ok (.lload_n n, 1)) (hl : L[(n : Nat)]? = some (some (.long x))) (k : mw G b ad M d Q (pc + 1) L (.long x :: st) s kc ks) : mw G b ad M d Q pc L st s kc ks := fun J Q0 h hq => aw_lload_n hd hl (k J Q0 h hq)
theorem mw_aload {i : Nat} {x : Nat} (hd : decode M.2.1 pc = .ok (.aload i, 2)) (hl : L[i]? = some (some (.ref x))) (k : mw G b ad M d Q (pc + 2) L (.ref x :: st) s kc ks) : mw G b ad M d Q pc L st s kc ks := fun J Q0 h hq => aw_aload hd hl (k J Q0 h hq)
theorem mw_aload_n {n : Fin 4} {x : Nat} (hd : decode M.2.1 pc = .ok (.aload_n n, 1)) (hl : L[(n : Nat)]? = some (some (.ref x))) (k : mw G b ad M d Q (pc + 1) L (.ref x :: st) s kc ks) : mw G b ad M d Q pc L st s kc ks := fun J Q0 h hq => aw_aload_n hd hl (k J Q0 h hq)
theorem mw_istore {i : Nat} {x : Int32} (hd : decode M.2.1 pc = .ok (.istore i, 2)) (hn : i < M.2.2.1) (ho : aw_ok1 L i = true) (k : mw G b ad M d Q (pc + 2) (L.set i (some (.int x))) st s kc ks) : mw G b ad M d Q pc L (.int x :: st) s kc ks := fun J Q0 h hq => aw_istore hd hn ho (k J Q0 h hq)
theorem mw_istore_n {n : Fin 4} {x : Int32} (hd : decode M.2.1 pc = .ok (.istore_n n, 1)) (hn : (n : Nat) < M.2.2.1) (ho : aw_ok1 L n = true) (k : mw G b ad M d Q (pc + 1) (L.set n (some (.int x))) st s kc ks) : mw G b ad M d Q pc L (.int x :: st) s kc ks := fun J Q0 h hq => aw_istore_n hd hn ho (k J Q0 h hq)
theorem mw_astore {i : Nat} {x : Nat} (hd : decode M.2.1 pc = .ok (.astore i, 2)) (hn : i < M.2.2.1) (ho : aw_ok1 L i = true) (k : mw G b ad M d Q (pc + 2) (L.set i (some (.ref x))) st s kc ks) : mw G b ad M d Q pc L (.ref x :: st) s kc ks := fun J Q0 h hq => aw_astore hd hn ho (k J Q0 h hq)
theorem mw_astore_n {n : Fin 4} {x : Nat} (hd : decode M.2.1 pc = .ok (.astore_n n, 1)) (hn : (n : Nat) < M.2.2.1) (ho : aw_ok1 L n = true) (k : mw G b ad M d Q (pc + 1) (L.set n (some (.ref x))) st s kc ks) : mw G b ad M d Q pc L (.ref x :: st) s kc ks := fun J Q0 h hq => aw_astore_n hd hn ho (k J Q0 h hq)
theorem mw_get {idx j : Nat} {v : Value} (hd : decode M.2.1 pc = .ok (.getfield idx, 3)) (hF : aw_F M.1.cls idx 9 j) (hv : (mo_fs ad s)[j]? = some v) (k : mw G b ad M d Q (pc + 3) L (v :: st) s kc ks) : mw G b ad M d Q pc L (.ref b :: st) s kc ks := fun J Q0 h hq => aw_get hd hF h.1 hv (k J Q0 h hq)
theorem mw_getI {idx j : Nat} (hd : decode M.2.1 pc = .ok (.getfield idx, 3)) (hF : aw_F M.1.cls idx 9 j) (hv : (mo_fs ad s)[j]? = some (.int (iI (s.1 j)))) (k : iB (s.1 j) → mw G b ad M d Q (pc + 3) L (.int (iI (s.1 j)) :: st) s kc ks) : mw G b ad M d Q pc L (.ref b :: st) s kc ks := fun J Q0 h hq => aw_get hd hF h.1 hv (k (h.2.2.2.1 j) J Q0 h hq)
theorem mw_putI {idx j : Nat} {x : Int} (hd : decode M.2.1 pc = .ok (.putfield idx, 3)) (hF : aw_S M.1.cls idx 9 j .int false) (hk : j < 33) (hi : mo_isA j = false) (hx : iB x) (k : mw G b ad M d Q (pc + 3) L st (mo_uz s j x) kc ks) : mw G b ad M d Q pc L (.int (iI x) :: .ref b :: st) s kc ks := fun J Q0 h hq => aw_put hd hF h.1 rfl rfl hk (k _ Q0 (h.num hk hi hx) (fun oc s' J' h1 h2 h3 => hq oc s' J' h1 (mo_F.num.tr h2) h3))
theorem mw_iald {j : Nat} {i : Int} (hd : decode M.2.1 pc = .ok (.iaload, 1)) (ha : mo_isA j = true) (hk : mo_kd j = 0) (hi : 0 ≤ i ∧ i < (mo_len j : Int)) (hb : iB i) (k : iB (s.2.1 j i) → mw G b ad M d Q (pc + 1) L (.int (iI (s.2.1 j i)) :: st) s kc ks) : mw G b ad M d Q pc L (.int (iI i) :: .ref (ad j) :: st) s kc ks := fun J Q0 h hq =>
  aw_iald hd (by rw [← mo_arr_i hk]; exact h.2.1 j ha) (iI_in hi.1 hi.2 hb) (by rw [iI_cl hb, Int.toNat_of_nonneg hi.1]; exact k (h.2.2.2.2 j i) J Q0 h hq)
theorem mw_zald {j : Nat} {i : Int} (hd : decode M.2.1 pc = .ok (.baload, 1)) (ha : mo_isA j = true) (hk : mo_kd j = 1) (hi : 0 ≤ i ∧ i < (mo_len j : Int)) (hb : iB i) (k : iB (s.2.1 j i) → mw G b ad M d Q (pc + 1) L (.int (iI (s.2.1 j i)) :: st) s kc ks) : mw G b ad M d Q pc L (.int (iI i) :: .ref (ad j) :: st) s kc ks := fun J Q0 h hq =>
  aw_zald hd (by rw [← mo_arr_z hk]; exact h.2.1 j ha) (iI_in hi.1 hi.2 hb) (by rw [iI_cl hb, Int.toNat_of_nonneg hi.1]; exact k (h.2.2.2.2 j i) J Q0 h hq)
theorem mw_lald {j : Nat} {i : Int} (hd : decode M.2.1 pc = .ok (.laload, 1)) (ha : mo_isA j = true) (hk : mo_kd j = 2) (hi : 0 ≤ i ∧ i < (mo_len j : Int)) (hb : iB i) (k : mw G b ad M d Q (pc + 1) L (.long (s.2.2 j i) :: st) s kc ks) : mw G b ad M d Q pc L (.int (iI i) :: .ref (ad j) :: st) s kc ks := fun J Q0 h hq =>
  aw_lald hd (by rw [← mo_arr_j hk]; exact h.2.1 j ha) (iI_in hi.1 hi.2 hb) (by rw [iI_cl hb, Int.toNat_of_nonneg hi.1]; exact k J Q0 h hq)
theorem mo_upd (f : Int → Int) {i x : Int} (h : 0 ≤ i) : upd (fun j => iI (f (j : Int))) i.toNat (iI x) = fun j : Nat => iI (if (j : Int) = i then x else f (j : Int)) := by
  funext j
  by_cases e : j = i.toNat
  · subst e
    rw [pk_us, if_pos (Int.toNat_of_nonneg h)]
  · rw [pk_un e, if_neg (fun z => e (by omega))]
theorem mo_uf_b {s : mo_S} {k : Nat} {i x : Int} (h : ∀ k i, iB (s.2.1 k i)) (hx : iB x) : ∀ k' i', iB ((mo_uf s k i x).2.1 k' i') := by
  intro k' i'
  show iB (if k' = k ∧ i' = i then x else s.2.1 k' i')
  split
  · exact hx
  · exact h k' i'
theorem mo_uf_arr {s : mo_S} {k : Nat} {i x : Int} (j : Int) : (mo_uf s k i x).2.1 k j = if j = i then x else s.2.1 k j := by
  show (if k = k ∧ j = i then x else s.2.1 k j) = _
  simp
theorem mw_iast {j : Nat} {i x : Int} (hd : decode M.2.1 pc = .ok (.iastore, 1)) (ha : mo_isA j = true) (hk : mo_kd j = 0) (hi : 0 ≤ i ∧ i < (mo_len j : Int)) (hb : iB i) (hx : iB x) (k : mw G b ad M d Q (pc + 1) L st (mo_uf s j i x) kc ks) : mw G b ad M d Q pc L (.int (iI x) :: .int (iI i) :: .ref (ad j) :: st) s kc ks := fun J Q0 h hq => by
  refine aw_iast hd (by rw [← mo_arr_i hk]; exact h.2.1 j ha) (iI_in hi.1 hi.2 hb) ?_
  rw [iI_cl hb, mo_upd (s.2.1 j) hi.1]
  have e : (Sum.inl (G.2.2.1 0, mo_len j, Sum.inl (fun q : Nat => iI (if (q : Int) = i then x else s.2.1 j (q : Int)))) : va_E) = mo_arr G (mo_uf s j i x) j := by
    rw [mo_arr_i hk]
    simp only [mo_uf_arr]
  rw [e]
  exact k _ Q0 (h.cell (s' := mo_uf s j i x) ha rfl (fun k' hk' => ⟨by funext q; show (if k' = j ∧ q = i then x else s.2.1 k' q) = _; rw [if_neg (fun z => hk' z.1)], rfl⟩) (mo_uf_b h.2.2.2.2 hx)) (fun oc s' J' h1 h2 h3 => hq oc s' J' h1 ((mo_F.cell ha).tr h2) h3)
theorem mo_nar {x : Int} (h : x = 0 ∨ x = 1) : vp_nar .boolean (iI x) = iI x := by
  rcases h with rfl | rfl <;> decide +kernel
theorem mw_zast {j : Nat} {i x : Int} (hd : decode M.2.1 pc = .ok (.bastore, 1)) (ha : mo_isA j = true) (hk : mo_kd j = 1) (hi : 0 ≤ i ∧ i < (mo_len j : Int)) (hb : iB i) (hx : x = 0 ∨ x = 1) (k : mw G b ad M d Q (pc + 1) L st (mo_uf s j i x) kc ks) : mw G b ad M d Q pc L (.int (iI x) :: .int (iI i) :: .ref (ad j) :: st) s kc ks := fun J Q0 h hq => by
  refine aw_zast hd (by rw [← mo_arr_z hk]; exact h.2.1 j ha) (iI_in hi.1 hi.2 hb) ?_
  rw [iI_cl hb, mo_nar hx, mo_upd (s.2.1 j) hi.1]
  have e : (Sum.inl (G.2.2.1 1, mo_len j, Sum.inl (fun q : Nat => iI (if (q : Int) = i then x else s.2.1 j (q : Int)))) : va_E) = mo_arr G (mo_uf s j i x) j := by
    rw [mo_arr_z hk]
    simp only [mo_uf_arr]
  rw [e]
  exact k _ Q0 (h.cell (s' := mo_uf s j i x) ha rfl (fun k' hk' => ⟨by funext q; show (if k' = j ∧ q = i then x else s.2.1 k' q) = _; rw [if_neg (fun z => hk' z.1)], rfl⟩) (mo_uf_b h.2.2.2.2 (by omega))) (fun oc s' J' h1 h2 h3 => hq oc s' J' h1 ((mo_F.cell ha).tr h2) h3)
theorem mw_last {j : Nat} {i : Int} {x : Int64} (hd : decode M.2.1 pc = .ok (.lastore, 1)) (ha : mo_isA j = true) (hk : mo_kd j = 2) (hi : 0 ≤ i ∧ i < (mo_len j : Int)) (hb : iB i) (k : mw G b ad M d Q (pc + 1) L st (mo_ug s j i x) kc ks) : mw G b ad M d Q pc L (.long x :: .int (iI i) :: .ref (ad j) :: st) s kc ks := fun J Q0 h hq => by
  refine aw_last hd (by rw [← mo_arr_j hk]; exact h.2.1 j ha) (iI_in hi.1 hi.2 hb) ?_
  have e : (Sum.inl (G.2.2.1 2, mo_len j, Sum.inr (Sum.inl (vp_updL (fun q : Nat => s.2.2 j (q : Int)) (iI i).toNatClampNeg x))) : va_E) = mo_arr G (mo_ug s j i x) j := by
    rw [mo_arr_j hk, iI_cl hb]
    congr 5
    funext q
    show _ = if j = j ∧ (q : Int) = i then x else s.2.2 j (q : Int)
    by_cases eq : q = i.toNat
    · subst eq
      rw [pk_uLs, if_pos ⟨rfl, Int.toNat_of_nonneg hi.1⟩]
    · rw [pk_uLn eq, if_neg (fun z => eq (by omega))]
  rw [e]
  exact k _ Q0 (h.cell (s' := mo_ug s j i x) ha rfl (fun k' hk' => ⟨rfl, by funext q; show (if k' = j ∧ q = i then x else s.2.2 k' q) = _; rw [if_neg (fun z => hk' z.1)]⟩) h.2.2.2.2) (fun oc s' J' h1 h2 h3 => hq oc s' J' h1 ((mo_F.cell ha).tr h2) h3)
theorem mw_iret {v : Int32} (hd : decode M.2.1 pc = .ok (.ireturn, 1)) (hr : M.2.2.2.1 = some .int) (hq0 : Q (.inl (some (.int v))) s) : mw G b ad M d Q pc L [.int v] s kc ks := fun J Q0 h hq => aw_iret hd hr (hq _ s J h mo_F.rf hq0)
theorem mw_zret {x : Int} (hd : decode M.2.1 pc = .ok (.ireturn, 1)) (hr : M.2.2.2.1 = some .boolean) (hx : x = 0 ∨ x = 1) (hq0 : Q (.inl (some (.int (iI x)))) s) : mw G b ad M d Q pc L [.int (iI x)] s kc ks := fun J Q0 h hq => aw_zret hd hr (by rcases hx with rfl | rfl <;> decide +kernel) (hq _ s J h mo_F.rf hq0)
theorem mw_vret (hd : decode M.2.1 pc = .ok (.return_, 1)) (hr : M.2.2.2.1 = none) (hq0 : Q (.inl none) s) : mw G b ad M d Q pc L [] s kc ks := fun J Q0 h hq => aw_vret hd hr (hq _ s J h mo_F.rf hq0)
theorem mw_more {d0 kc0 ks0 : Nat} (hd : d0 ≤ d) (hc : kc0 ≤ kc) (hs : ks0 ≤ ks) (k : mw G b ad M d0 Q pc L st s kc0 ks0) : mw G b ad M d Q pc L st s kc ks := fun J Q0 h hq => aw_more hd hc hs (k J Q0 h hq)
theorem mw_mono {Q1 : aw_O → mo_S → Prop} (hQ : ∀ oc s', Q1 oc s' → Q oc s') (k : mw G b ad M d Q1 pc L st s kc ks) : mw G b ad M d Q pc L st s kc ks := fun J Q0 h hq => k J Q0 h (fun oc s' J' h1 h2 h3 => hq oc s' J' h1 h2 (hQ oc s' h3))
end MW
/-- what a caller does with a callee's end -/
def mo_K (k1 : Option Value → mo_S → Prop) : aw_O → mo_S → Prop := fun oc s => match oc with
  | .inl v => k1 v s
  | .inr _ => False
section MWC
variable {G : aw_G} {b : Nat} {ad : Nat → Nat} {M M' : aw_M} {d : Nat} {Q : aw_O → mo_S → Prop} {pc idx : Nat} {L : List (Option Value)} {st : List Value} {s : mo_S} {kc ks : Nat}
theorem mw_callV0 (hd : decode M.2.1 pc = .ok (.invokevirtual idx, 3)) (hS : aw_CV M.1.cls idx M' 9 0) (hcat : (st.map fun v => v.category).sum ≤ 8) (hlen : (lg_sl [.ref b]).length ≤ M'.2.2.1) (hX : M.2.2.2.2 = []) (k : mw G b ad M' d (mo_K (fun v s' => mw G b ad M (d + 1) Q (pc + 3) L (v.toList ++ st) s' kc ks)) 0 (aw_ent [.ref b] M'.2.2.1) [] s 0 0) : mw G b ad M (d + 1) Q pc L (.ref b :: st) s kc ks := fun J Q0 h hq =>
  aw_callV0 (mc' := 0) (ms' := 0) (kc' := kc) (ks' := ks) hd hS h.1 hcat hlen (by omega) (by omega) hX (k J _ h (fun oc s' J' h1 h2 h3 => by
    cases oc with
    | inl v => exact h3 J' Q0 h1 (fun oc s'' J'' h4 h5 h6 => hq oc s'' J'' h4 (h2.tr h5) h6)
    | inr E => exact h3.elim))
theorem mw_callV1 {v1 : Value} (hd : decode M.2.1 pc = .ok (.invokevirtual idx, 3)) (hS : aw_CV M.1.cls idx M' 9 1) (hcat : (st.map fun v => v.category).sum ≤ 8) (hlen : (lg_sl [.ref b, v1]).length ≤ M'.2.2.1) (hX : M.2.2.2.2 = []) (k : mw G b ad M' d (mo_K (fun v s' => mw G b ad M (d + 1) Q (pc + 3) L (v.toList ++ st) s' kc ks)) 0 (aw_ent [.ref b, v1] M'.2.2.1) [] s 0 0) : mw G b ad M (d + 1) Q pc L (v1 :: .ref b :: st) s kc ks := fun J Q0 h hq =>
  aw_callV1 (mc' := 0) (ms' := 0) (kc' := kc) (ks' := ks) hd hS h.1 hcat hlen (by omega) (by omega) hX (k J _ h (fun oc s' J' h1 h2 h3 => by
    cases oc with
    | inl v => exact h3 J' Q0 h1 (fun oc s'' J'' h4 h5 h6 => hq oc s'' J'' h4 (h2.tr h5) h6)
    | inr E => exact h3.elim))
theorem mw_callV2 {v1 v2 : Value} (hd : decode M.2.1 pc = .ok (.invokevirtual idx, 3)) (hS : aw_CV M.1.cls idx M' 9 2) (hcat : (st.map fun v => v.category).sum ≤ 8) (hlen : (lg_sl [.ref b, v1, v2]).length ≤ M'.2.2.1) (hX : M.2.2.2.2 = []) (k : mw G b ad M' d (mo_K (fun v s' => mw G b ad M (d + 1) Q (pc + 3) L (v.toList ++ st) s' kc ks)) 0 (aw_ent [.ref b, v1, v2] M'.2.2.1) [] s 0 0) : mw G b ad M (d + 1) Q pc L (v2 :: v1 :: .ref b :: st) s kc ks := fun J Q0 h hq =>
  aw_callV2 (mc' := 0) (ms' := 0) (kc' := kc) (ks' := ks) hd hS h.1 hcat hlen (by omega) (by omega) hX (k J _ h (fun oc s' J' h1 h2 h3 => by
    cases oc with
    | inl v => exact h3 J' Q0 h1 (fun oc s'' J'' h4 h5 h6 => hq oc s'' J'' h4 (h2.tr h5) h6)
    | inr E => exact h3.elim))
theorem mw_callV3 {v1 v2 v3 : Value} (hd : decode M.2.1 pc = .ok (.invokevirtual idx, 3)) (hS : aw_CV M.1.cls idx M' 9 3) (hcat : (st.map fun v => v.category).sum ≤ 8) (hlen : (lg_sl [.ref b, v1, v2, v3]).length ≤ M'.2.2.1) (hX : M.2.2.2.2 = []) (k : mw G b ad M' d (mo_K (fun v s' => mw G b ad M (d + 1) Q (pc + 3) L (v.toList ++ st) s' kc ks)) 0 (aw_ent [.ref b, v1, v2, v3] M'.2.2.1) [] s 0 0) : mw G b ad M (d + 1) Q pc L (v3 :: v2 :: v1 :: .ref b :: st) s kc ks := fun J Q0 h hq =>
  aw_callV3 (mc' := 0) (ms' := 0) (kc' := kc) (ks' := ks) hd hS h.1 hcat hlen (by omega) (by omega) hX (k J _ h (fun oc s' J' h1 h2 h3 => by
    cases oc with
    | inl v => exact h3 J' Q0 h1 (fun oc s'' J'' h4 h5 h6 => hq oc s'' J'' h4 (h2.tr h5) h6)
    | inr E => exact h3.elim))
theorem mw_callV4 {v1 v2 v3 v4 : Value} (hd : decode M.2.1 pc = .ok (.invokevirtual idx, 3)) (hS : aw_CV M.1.cls idx M' 9 4) (hcat : (st.map fun v => v.category).sum ≤ 8) (hlen : (lg_sl [.ref b, v1, v2, v3, v4]).length ≤ M'.2.2.1) (hX : M.2.2.2.2 = []) (k : mw G b ad M' d (mo_K (fun v s' => mw G b ad M (d + 1) Q (pc + 3) L (v.toList ++ st) s' kc ks)) 0 (aw_ent [.ref b, v1, v2, v3, v4] M'.2.2.1) [] s 0 0) : mw G b ad M (d + 1) Q pc L (v4 :: v3 :: v2 :: v1 :: .ref b :: st) s kc ks := fun J Q0 h hq =>
  aw_callV4 (mc' := 0) (ms' := 0) (kc' := kc) (ks' := ks) hd hS h.1 hcat hlen (by omega) (by omega) hX (k J _ h (fun oc s' J' h1 h2 h3 => by
    cases oc with
    | inl v => exact h3 J' Q0 h1 (fun oc s'' J'' h4 h5 h6 => hq oc s'' J'' h4 (h2.tr h5) h6)
    | inr E => exact h3.elim))
theorem mw_callS0 (hd : decode M.2.1 pc = .ok (.invokestatic idx, 3)) (hS : aw_CS M.1.cls idx M' 0) (hcat : (st.map fun v => v.category).sum ≤ 8) (hlen : (lg_sl []).length ≤ M'.2.2.1) (hX : M.2.2.2.2 = []) (k : mw G b ad M' d (mo_K (fun v s' => mw G b ad M (d + 1) Q (pc + 3) L (v.toList ++ st) s' kc ks)) 0 (aw_ent [] M'.2.2.1) [] s 0 0) : mw G b ad M (d + 1) Q pc L st s kc ks := fun J Q0 h hq =>
  aw_callS0 (mc' := 0) (ms' := 0) (kc' := kc) (ks' := ks) hd hS hcat hlen (by omega) (by omega) hX (k J _ h (fun oc s' J' h1 h2 h3 => by
    cases oc with
    | inl v => exact h3 J' Q0 h1 (fun oc s'' J'' h4 h5 h6 => hq oc s'' J'' h4 (h2.tr h5) h6)
    | inr E => exact h3.elim))
theorem mw_callS1 {v1 : Value} (hd : decode M.2.1 pc = .ok (.invokestatic idx, 3)) (hS : aw_CS M.1.cls idx M' 1) (hcat : (st.map fun v => v.category).sum ≤ 8) (hlen : (lg_sl [v1]).length ≤ M'.2.2.1) (hX : M.2.2.2.2 = []) (k : mw G b ad M' d (mo_K (fun v s' => mw G b ad M (d + 1) Q (pc + 3) L (v.toList ++ st) s' kc ks)) 0 (aw_ent [v1] M'.2.2.1) [] s 0 0) : mw G b ad M (d + 1) Q pc L (v1 :: st) s kc ks := fun J Q0 h hq =>
  aw_callS1 (mc' := 0) (ms' := 0) (kc' := kc) (ks' := ks) hd hS hcat hlen (by omega) (by omega) hX (k J _ h (fun oc s' J' h1 h2 h3 => by
    cases oc with
    | inl v => exact h3 J' Q0 h1 (fun oc s'' J'' h4 h5 h6 => hq oc s'' J'' h4 (h2.tr h5) h6)
    | inr E => exact h3.elim))
theorem mw_callS2 {v1 v2 : Value} (hd : decode M.2.1 pc = .ok (.invokestatic idx, 3)) (hS : aw_CS M.1.cls idx M' 2) (hcat : (st.map fun v => v.category).sum ≤ 8) (hlen : (lg_sl [v1, v2]).length ≤ M'.2.2.1) (hX : M.2.2.2.2 = []) (k : mw G b ad M' d (mo_K (fun v s' => mw G b ad M (d + 1) Q (pc + 3) L (v.toList ++ st) s' kc ks)) 0 (aw_ent [v1, v2] M'.2.2.1) [] s 0 0) : mw G b ad M (d + 1) Q pc L (v2 :: v1 :: st) s kc ks := fun J Q0 h hq =>
  aw_callS2 (mc' := 0) (ms' := 0) (kc' := kc) (ks' := ks) hd hS hcat hlen (by omega) (by omega) hX (k J _ h (fun oc s' J' h1 h2 h3 => by
    cases oc with
    | inl v => exact h3 J' Q0 h1 (fun oc s'' J'' h4 h5 h6 => hq oc s'' J'' h4 (h2.tr h5) h6)
    | inr E => exact h3.elim))
theorem mw_callS3 {v1 v2 v3 : Value} (hd : decode M.2.1 pc = .ok (.invokestatic idx, 3)) (hS : aw_CS M.1.cls idx M' 3) (hcat : (st.map fun v => v.category).sum ≤ 8) (hlen : (lg_sl [v1, v2, v3]).length ≤ M'.2.2.1) (hX : M.2.2.2.2 = []) (k : mw G b ad M' d (mo_K (fun v s' => mw G b ad M (d + 1) Q (pc + 3) L (v.toList ++ st) s' kc ks)) 0 (aw_ent [v1, v2, v3] M'.2.2.1) [] s 0 0) : mw G b ad M (d + 1) Q pc L (v3 :: v2 :: v1 :: st) s kc ks := fun J Q0 h hq =>
  aw_callS3 (mc' := 0) (ms' := 0) (kc' := kc) (ks' := ks) hd hS hcat hlen (by omega) (by omega) hX (k J _ h (fun oc s' J' h1 h2 h3 => by
    cases oc with
    | inl v => exact h3 J' Q0 h1 (fun oc s'' J'' h4 h5 h6 => hq oc s'' J'' h4 (h2.tr h5) h6)
    | inr E => exact h3.elim))
theorem mw_callS4 {v1 v2 v3 v4 : Value} (hd : decode M.2.1 pc = .ok (.invokestatic idx, 3)) (hS : aw_CS M.1.cls idx M' 4) (hcat : (st.map fun v => v.category).sum ≤ 8) (hlen : (lg_sl [v1, v2, v3, v4]).length ≤ M'.2.2.1) (hX : M.2.2.2.2 = []) (k : mw G b ad M' d (mo_K (fun v s' => mw G b ad M (d + 1) Q (pc + 3) L (v.toList ++ st) s' kc ks)) 0 (aw_ent [v1, v2, v3, v4] M'.2.2.1) [] s 0 0) : mw G b ad M (d + 1) Q pc L (v4 :: v3 :: v2 :: v1 :: st) s kc ks := fun J Q0 h hq =>
  aw_callS4 (mc' := 0) (ms' := 0) (kc' := kc) (ks' := ks) hd hS hcat hlen (by omega) (by omega) hX (k J _ h (fun oc s' J' h1 h2 h3 => by
    cases oc with
    | inl v => exact h3 J' Q0 h1 (fun oc s'' J'' h4 h5 h6 => hq oc s'' J'' h4 (h2.tr h5) h6)
    | inr E => exact h3.elim))
end MWC
