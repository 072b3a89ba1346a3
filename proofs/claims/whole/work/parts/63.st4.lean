/-! the class: filters, paths -/
section ST4
variable {G : aw_G} {d : Nat} {Q : aw_O → aw_J → Prop} {J : aw_J} {kc ks : Nat}
theorem bt_a : ∀ n : Fin 64, ((iI (n : Nat)).toInt64 &&& 63).toBitVec.smod 64 = BitVec.ofNat 64 n := by decide +kernel
theorem bt_b : ∀ n : Fin 64, ((iI (n : Nat)).toInt64.toUInt64 &&& Int64.toUInt64 63).toBitVec % 64 = BitVec.ofNat 64 n := by decide +kernel
theorem bt_c : ∀ n : Fin 64, ((iI (n : Nat) >>> (iI 3 &&& 31)) &&& 31).toBitVec.smod 32 = BitVec.ofNat 32 (n / 8) := by decide +kernel
theorem bt_d : ∀ n : Fin 64, ((iI (n : Nat) >>> (iI 3 &&& 31)).toUInt32 &&& Int32.toUInt32 31).toBitVec % 32 = BitVec.ofNat 32 (n / 8) := by decide +kernel
theorem bt_1 {w : Nat} (hw : 1 < w) (v : BitVec w) : (v &&& 1#w = 1#w ↔ v.getLsbD 0 = true) ∧ (v &&& 1#w = 0#w ↔ v.getLsbD 0 = false) := by
  have h1 : (1#w : BitVec w).getLsbD 0 = true := by simp; omega
  have e : ∀ b : Bool, v.getLsbD 0 = b → v &&& 1#w = if b then 1#w else 0#w := by
    intro b hb
    apply BitVec.eq_of_getLsbD_eq
    intro i hi
    by_cases hi0 : i = 0
    · subst hi0
      rw [BitVec.getLsbD_and, hb, h1]
      cases b
      · simp
      · simp; omega
    · rw [BitVec.getLsbD_and]
      have : (1#w : BitVec w).getLsbD i = false := by
        simp [BitVec.getLsbD_one]; omega
      rw [this]
      cases b <;> simp [BitVec.getLsbD_one] <;> omega
  have hne : (1#w : BitVec w) ≠ 0#w := by
    intro z
    have := congrArg (fun q : BitVec w => q.getLsbD 0) z
    simp at this
    omega
  constructor
  · constructor
    · intro h
      cases hb : v.getLsbD 0 with
      | true => rfl
      | false => rw [e false hb] at h; exact absurd h.symm hne
    · intro h; rw [e true h]; rfl
  · constructor
    · intro h
      cases hb : v.getLsbD 0 with
      | false => rfl
      | true => rw [e true hb] at h; exact absurd h hne
    · intro h; rw [e false h]; rfl
theorem bt_J {x : Int64} {n : Int} (h0 : 0 ≤ n) (h1 : n ≤ 63) : mo_bJ x n ↔ x.toBitVec.getLsbD n.toNat = true := by
  obtain ⟨m, rfl⟩ : ∃ m : Nat, n = (m : Int) := ⟨n.toNat, by omega⟩
  have hm : m < 64 := by omega
  have ha := bt_a ⟨m, hm⟩
  have e : ((x >>> ((iI (m : Int)).toInt64 &&& 63)) &&& 1 = 1) ↔ ((x >>> ((iI (m : Int)).toInt64 &&& 63)).toBitVec &&& 1#64 = 1#64) := by
    rw [← Int64.toBitVec_inj]
    exact Iff.rfl
  show ((x >>> ((iI (m : Int)).toInt64 &&& 63)) &&& 1 = 1) ↔ _
  rw [e, (bt_1 (by decide) _).1, Int64.toBitVec_shiftRight]
  show (x.toBitVec.sshiftRight' (((iI (m : Int)).toInt64 &&& 63).toBitVec.smod 64)).getLsbD 0 = true ↔ _
  rw [show ((iI (m : Int)).toInt64 &&& 63).toBitVec.smod 64 = BitVec.ofNat 64 m from ha]
  rw [BitVec.sshiftRight', BitVec.getLsbD_sshiftRight]
  have e2 : (BitVec.ofNat 64 m).toNat = m := by simp; omega
  rw [e2]
  simp
  intro hge
  omega
theorem bt_K {x : Int64} {n : Int} (h0 : 0 ≤ n) (h1 : n ≤ 63) : (x.toUInt64 >>> ((iI n).toInt64.toUInt64 &&& Int64.toUInt64 63)).toInt64 &&& 1 = 0 ↔ x.toBitVec.getLsbD n.toNat = false := by
  obtain ⟨m, rfl⟩ : ∃ m : Nat, n = (m : Int) := ⟨n.toNat, by omega⟩
  have hm : m < 64 := by omega
  have ha := bt_b ⟨m, hm⟩
  have e : ((x.toUInt64 >>> ((iI (m : Int)).toInt64.toUInt64 &&& Int64.toUInt64 63)).toInt64 &&& 1 = 0) ↔ ((x.toUInt64 >>> ((iI (m : Int)).toInt64.toUInt64 &&& Int64.toUInt64 63)).toBitVec &&& 1#64 = 0#64) := by
    rw [← Int64.toBitVec_inj]
    exact Iff.rfl
  rw [e, (bt_1 (by decide) _).2, UInt64.toBitVec_shiftRight]
  rw [show ((iI (m : Int)).toInt64.toUInt64 &&& Int64.toUInt64 63).toBitVec % 64 = BitVec.ofNat 64 m from ha]
  show (x.toBitVec >>> BitVec.ofNat 64 m).getLsbD 0 = false ↔ _
  rw [BitVec.ushiftRight_eq', BitVec.getLsbD_ushiftRight]
  have e2 : (BitVec.ofNat 64 m).toNat = m := by simp; omega
  rw [e2]
  exact Iff.rfl
theorem bt_I {w n : Int} (h0 : 0 ≤ n) (h1 : n ≤ 63) : mo_bI w n ↔ (iI w).toBitVec.getLsbD (n.toNat / 8) = true := by
  obtain ⟨m, rfl⟩ : ∃ m : Nat, n = (m : Int) := ⟨n.toNat, by omega⟩
  have hm : m < 64 := by omega
  have ha := bt_c ⟨m, hm⟩
  have e : ((iI w >>> ((iI (m : Int) >>> (iI 3 &&& 31)) &&& 31)) &&& iI 1 = iI 1) ↔ ((iI w >>> ((iI (m : Int) >>> (iI 3 &&& 31)) &&& 31)).toBitVec &&& 1#32 = 1#32) := by
    rw [← Int32.toBitVec_inj]
    exact Iff.rfl
  show ((iI w >>> ((iI (m : Int) >>> (iI 3 &&& 31)) &&& 31)) &&& iI 1 = iI 1) ↔ _
  rw [e, (bt_1 (by decide) _).1, Int32.toBitVec_shiftRight]
  show ((iI w).toBitVec.sshiftRight' (((iI (m : Int) >>> (iI 3 &&& 31)) &&& 31).toBitVec.smod 32)).getLsbD 0 = true ↔ _
  rw [show ((iI (m : Int) >>> (iI 3 &&& 31)) &&& 31).toBitVec.smod 32 = BitVec.ofNat 32 (m / 8) from ha]
  rw [BitVec.sshiftRight', BitVec.getLsbD_sshiftRight]
  have e2 : (BitVec.ofNat 32 (m / 8)).toNat = m / 8 := by simp; omega
  rw [e2]
  have e3 : (m : Int).toNat = m := rfl
  rw [e3]
  have e4 : m / 8 + 0 < 32 := by omega
  rw [if_pos e4]
  simp
theorem bt_H {w n : Int} (h0 : 0 ≤ n) (h1 : n ≤ 63) : ((iI w).toUInt32 >>> ((iI n >>> (iI 3 &&& 31)).toUInt32 &&& Int32.toUInt32 31)).toInt32 &&& iI 1 = 0 ↔ (iI w).toBitVec.getLsbD (n.toNat / 8) = false := by
  obtain ⟨m, rfl⟩ : ∃ m : Nat, n = (m : Int) := ⟨n.toNat, by omega⟩
  have hm : m < 64 := by omega
  have ha := bt_d ⟨m, hm⟩
  have e : (((iI w).toUInt32 >>> ((iI (m : Int) >>> (iI 3 &&& 31)).toUInt32 &&& Int32.toUInt32 31)).toInt32 &&& iI 1 = 0) ↔ (((iI w).toUInt32 >>> ((iI (m : Int) >>> (iI 3 &&& 31)).toUInt32 &&& Int32.toUInt32 31)).toBitVec &&& 1#32 = 0#32) := by
    rw [← Int32.toBitVec_inj]
    exact Iff.rfl
  rw [e, (bt_1 (by decide) _).2, UInt32.toBitVec_shiftRight]
  rw [show ((iI (m : Int) >>> (iI 3 &&& 31)).toUInt32 &&& Int32.toUInt32 31).toBitVec % 32 = BitVec.ofNat 32 (m / 8) from ha]
  show ((iI w).toBitVec >>> BitVec.ofNat 32 (m / 8)).getLsbD 0 = false ↔ _
  rw [BitVec.ushiftRight_eq', BitVec.getLsbD_ushiftRight]
  have e2 : (BitVec.ofNat 32 (m / 8)).toNat = m / 8 := by simp; omega
  rw [e2]
  exact Iff.rfl
/-- what a filter admits -/
def st_ad (pk : Int) (al dn : Int64) (n : Int) : Prop := ¬ mo_bJ dn n ∧ (mo_bJ al n ∨ mo_bI pk n)
theorem bt_adm {pk : Int} {al dn : Int64} {n : Int} (h0 : 0 ≤ n) (h1 : n ≤ 63) : st_ad pk al dn n ↔ dn.toBitVec.getLsbD n.toNat = false ∧ (¬ al.toBitVec.getLsbD n.toNat = false ∨ ¬ (iI pk).toBitVec.getLsbD (n.toNat / 8) = false) := by
  unfold st_ad
  rw [bt_J h0 h1, bt_J h0 h1, bt_I h0 h1]
  simp
theorem sp_admits {a : Nat} {pk m : Int} {al dn : Int64} (hm : 0 ≤ m ∧ m ≤ 63) (hJ : J a = some (.inr (3, [.int (iI pk), .long al, .long dn]))) (h1 : st_ad pk al dn m → Q (.inl (some (.int (iI 1)))) J) (h0 : ¬ st_ad pk al dn m → Q (.inl (some (.int (iI 0)))) J) : aw_W G mF_admits d Q 0 [some (.ref a), some (.int (iI m))] [] J kc ks := by
  first | refine aw_aload_n dF_admits_0 rfl ?_ | refine aw_aload_nQ dF_admits_0 rfl ?_ | refine aw_aload_nN dF_admits_0 rfl ?_
  refine aw_get dF_admits_1 fF_17 hJ rfl ?_
  refine aw_iload_n dF_admits_4 rfl ?_
  refine aw_lushr dF_admits_5 ?_
  refine aw_lconst (v := 1) dF_admits_6 (by decide) ?_
  refine aw_land dF_admits_7 ?_
  refine aw_lconst (v := 0) dF_admits_8 (by decide) ?_
  refine aw_lcmp dF_admits_9 ?_
  refine aw_if_eq (tgt := 15) dF_admits_10 (by decide) (fun hb10 => ?_) (fun hb10 => ?_)
  · first | refine aw_aload_n dF_admits_15 rfl ?_ | refine aw_aload_nQ dF_admits_15 rfl ?_ | refine aw_aload_nN dF_admits_15 rfl ?_
    refine aw_get dF_admits_16 fF_13 hJ rfl ?_
    refine aw_iload_n dF_admits_19 rfl ?_
    refine aw_lushr dF_admits_20 ?_
    refine aw_lconst (v := 1) dF_admits_21 (by decide) ?_
    refine aw_land dF_admits_22 ?_
    refine aw_lconst (v := 0) dF_admits_23 (by decide) ?_
    refine aw_lcmp dF_admits_24 ?_
    refine aw_if_ne (tgt := 41) dF_admits_25 (by decide) (fun hb25 => ?_) (fun hb25 => ?_)
    · refine ai_iconst dF_admits_41 ?_
      refine aw_goto (tgt := 46) dF_admits_42 (by decide) ?_
      refine aw_zret dF_admits_46 rfl (by decide +kernel) ?_
      have k1 := (bt_K hm.1 hm.2).mp ((mo_lcmp _ _).mp hb10)
      first
        | exact h1 ((bt_adm hm.1 hm.2).mpr ⟨k1, Or.inl (fun z => hb25 ((mo_lcmp _ _).mpr ((bt_K hm.1 hm.2).mpr z)))⟩)
        | exact h1 ((bt_adm hm.1 hm.2).mpr ⟨k1, Or.inr (fun z => hb38 ((bt_H hm.1 hm.2).mpr z))⟩)
        | exact h0 (fun z => ((bt_adm hm.1 hm.2).mp z).2.elim (fun q => q ((bt_K hm.1 hm.2).mp ((mo_lcmp _ _).mp hb25))) (fun q => q ((bt_H hm.1 hm.2).mp hb38)))
    · first | refine aw_aload_n dF_admits_28 rfl ?_ | refine aw_aload_nQ dF_admits_28 rfl ?_ | refine aw_aload_nN dF_admits_28 rfl ?_
      refine aw_get dF_admits_29 fF_7 hJ rfl ?_
      refine aw_iload_n dF_admits_32 rfl ?_
      refine ai_iconst dF_admits_33 ?_
      refine aw_ishr dF_admits_34 ?_
      refine aw_iushr dF_admits_35 ?_
      refine ai_iconst dF_admits_36 ?_
      refine aw_iand dF_admits_37 ?_
      refine aw_if_eq (tgt := 45) dF_admits_38 (by decide) (fun hb38 => ?_) (fun hb38 => ?_)
      · refine ai_iconst dF_admits_45 ?_
        refine aw_zret dF_admits_46 rfl (by decide +kernel) ?_
        have k1 := (bt_K hm.1 hm.2).mp ((mo_lcmp _ _).mp hb10)
        first
          | exact h1 ((bt_adm hm.1 hm.2).mpr ⟨k1, Or.inl (fun z => hb25 ((mo_lcmp _ _).mpr ((bt_K hm.1 hm.2).mpr z)))⟩)
          | exact h1 ((bt_adm hm.1 hm.2).mpr ⟨k1, Or.inr (fun z => hb38 ((bt_H hm.1 hm.2).mpr z))⟩)
          | exact h0 (fun z => ((bt_adm hm.1 hm.2).mp z).2.elim (fun q => q ((bt_K hm.1 hm.2).mp ((mo_lcmp _ _).mp hb25))) (fun q => q ((bt_H hm.1 hm.2).mp hb38)))
      · refine ai_iconst dF_admits_41 ?_
        refine aw_goto (tgt := 46) dF_admits_42 (by decide) ?_
        refine aw_zret dF_admits_46 rfl (by decide +kernel) ?_
        have k1 := (bt_K hm.1 hm.2).mp ((mo_lcmp _ _).mp hb10)
        first
          | exact h1 ((bt_adm hm.1 hm.2).mpr ⟨k1, Or.inl (fun z => hb25 ((mo_lcmp _ _).mpr ((bt_K hm.1 hm.2).mpr z)))⟩)
          | exact h1 ((bt_adm hm.1 hm.2).mpr ⟨k1, Or.inr (fun z => hb38 ((bt_H hm.1 hm.2).mpr z))⟩)
          | exact h0 (fun z => ((bt_adm hm.1 hm.2).mp z).2.elim (fun q => q ((bt_K hm.1 hm.2).mp ((mo_lcmp _ _).mp hb25))) (fun q => q ((bt_H hm.1 hm.2).mp hb38)))
  · refine ai_iconst dF_admits_13 ?_
    refine aw_zret dF_admits_14 rfl (by decide +kernel) ?_
    exact h0 (fun z => hb10 ((mo_lcmp _ _).mpr ((bt_K hm.1 hm.2).mpr ((bt_adm hm.1 hm.2).mp z).1)))

end ST4
