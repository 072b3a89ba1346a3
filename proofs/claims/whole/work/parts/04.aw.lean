/-! AW: a light judgement over the machine. The heap is a function from addresses to cells (aw_J); all that is steady (code, tables, statics, room) is hidden in aw_W. One row an instruction. -/
abbrev aw_O : Type := Option Value ⊕ String
/-- method: name, bytes, number of locals, type of the answer, table of handlers -/
abbrev aw_M : Type := MethodName × ByteArray × Nat × Option FieldType × List (Nat × Nat × Nat × Nat)
def aw_up (J : aw_J) (a : Nat) (e : va_E) : aw_J := fun b => if b = a then some e else J b
theorem aw_up_s {J : aw_J} {a : Nat} {e : va_E} : aw_up J a e a = some e := by simp [aw_up]
theorem aw_up_n {J : aw_J} {a b : Nat} {e : va_E} (h : b ≠ a) : aw_up J a e b = J b := by simp [aw_up, h]
/-- the heap holds J, and J lies in A -/
def aw_R (G : aw_G) (A : Nat → Prop) (J : aw_J) (H : Heap) : Prop := ∃ ws : va_W, va_P G.2.1 aw_cl ws H ∧ va_D A ws ∧ ∀ (a : Nat) (e : va_E), J a = some e → ∃ k : Nat, ws[k]? = some (a, e)
theorem aw_R.put {J : aw_J} {ws : va_W} {k a : Nat} {e0 e1 : va_E} (hJ : ∀ (a : Nat) (e : va_E), J a = some e → ∃ k : Nat, ws[k]? = some (a, e)) (hk : ws[k]? = some (a, e0)) :
    ∀ (b : Nat) (e : va_E), aw_up J a e1 b = some e → ∃ j : Nat, (ws.set k (a, e1))[j]? = some (b, e) := by
  intro b e hb
  have hlt : k < ws.length := (List.getElem?_eq_some_iff.mp hk).1
  by_cases h : b = a
  · subst h
    rw [aw_up_s] at hb
    cases hb
    exact ⟨k, by simp [hlt]⟩
  · rw [aw_up_n h] at hb
    obtain ⟨j, hj⟩ := hJ b e hb
    have hne : k ≠ j := by
      intro hkj
      subst hkj
      rw [hk] at hj
      cases hj
      exact h rfl
    exact ⟨j, by rw [List.getElem?_set_ne hne]; exact hj⟩
theorem aw_R.push {J : aw_J} {ws : va_W} {q : Nat} {e1 : va_E} (hJ : ∀ (a : Nat) (e : va_E), J a = some e → ∃ k : Nat, ws[k]? = some (a, e)) :
    ∀ (b : Nat) (e : va_E), aw_up J q e1 b = some e → ∃ j : Nat, (ws ++ [(q, e1)])[j]? = some (b, e) := by
  intro b e hb
  by_cases h : b = q
  · subst h
    rw [aw_up_s] at hb
    cases hb
    exact ⟨ws.length, by simp⟩
  · rw [aw_up_n h] at hb
    obtain ⟨j, hj⟩ := hJ b e hb
    have hlt : j < ws.length := (List.getElem?_eq_some_iff.mp hj).1
    exact ⟨j, by rw [List.getElem?_append_left hlt]; exact hj⟩
theorem aw_R.fresh {A : Nat → Prop} {J : aw_J} {ws : va_W} {q : Nat} {e1 : va_E} (hJ : ∀ (a : Nat) (e : va_E), J a = some e → ∃ k : Nat, ws[k]? = some (a, e)) (hD : va_D A (ws ++ [(q, e1)])) : J q = none := by
  cases h : J q with
  | none => rfl
  | some e =>
    obtain ⟨j, hj⟩ := hJ q e h
    have hlt : j < ws.length := (List.getElem?_eq_some_iff.mp hj).1
    have h2 := hD.1 j ws.length (q, e) (q, e1) (by rw [List.getElem?_append_left hlt]; exact hj) (by simp) rfl
    omega
/-- what the tables say, and stays -/
def aw_T (G : aw_G) (U : State) : Prop := (∀ w ∈ aw_NB, va_Nw w U) ∧ va_K G.2.1 aw_cl (aw_tys G) U ∧ (∀ C ∈ aw_AO, va_AO C U) ∧ (∀ q ∈ aw_SB, ∃ a : Nat, vk_R q.1 q.2.1 q.2.2 a U) ∧ ∀ q ∈ aw_NC, va_Nc q.1 q.2 U
theorem aw_nw_warm {w : Cond} (hw : aw_nw w = true) {s U : State} (hW : s.WarmedH U.vm) (h : va_Nw w s) : va_Nw w U := by
  cases w <;> first | exact va_Nw.warmF hW h | exact va_Nw.warmM hW h | exact va_Nw.warmD hW h | exact va_Nw.warmC hW h | (simp [aw_nw] at hw)
theorem aw_nw_same {w : Cond} (hw : aw_nw w = true) {u U : State} (hv : u.vm = U.vm) (h : va_Nw w u) : va_Nw w U := by
  cases w <;> first | exact va_Nw.same rfl hv h | (simp [aw_nw] at hw)
theorem aw_T.warm {G : aw_G} {s U : State} (hW : s.WarmedH U.vm) (h : aw_T G s) : aw_T G U :=
  ⟨fun w hw => aw_nw_warm (aw_NB_nw w hw) hW (h.1 w hw), va_K.moved hW.alike h.2.1, fun C hC => va_AO.moved hW.alike (h.2.2.1 C hC), fun q hq => by
    obtain ⟨a, ha⟩ := h.2.2.2.1 q hq
    exact ⟨a, ha.warm hW⟩, fun q hq => va_Nc.moved hW.alike (h.2.2.2.2 q hq)⟩
theorem aw_T.same {G : aw_G} {u U : State} (hv : U.vm = u.vm) (h : aw_T G u) : aw_T G U :=
  ⟨fun w hw => aw_nw_same (aw_NB_nw w hw) hv.symm (h.1 w hw), va_K.moved (u := u) (U := U) (by rw [hv]; exact Vm.Alike.refl _) h.2.1, fun C hC => va_AO.moved (by rw [hv]; exact Vm.Alike.refl _) (h.2.2.1 C hC), fun q hq => by
    obtain ⟨a, ha⟩ := h.2.2.2.1 q hq
    exact ⟨a, ha.same hv⟩, fun q hq => va_Nc.moved (by rw [hv]; exact Vm.Alike.refl _) (h.2.2.2.2 q hq)⟩
/-- what old cells hold that nobody writes: the constants of State, what a throw reads, the script -/
def aw_Z (G : aw_G) (A : Nat → Prop) (U : State) (H : Heap) : Prop := va_En aw_En "LScopeTree$State;" aw_en [] G.2.2.2.1 A U H ∧ vx_Zq Bundle.tN "UNASSIGNED_STACK" Bundle.steD A U H ∧ vx_Zq Bundle.tN "SUPPRESSED_SENTINEL" Bundle.listD A U H ∧ va_X G.2.2.2.2.1 G.2.2.2.2.2.1 G.2.2.2.2.2.2 U H ∧ G.2.2.2.2.1 < H.size ∧ ¬ A G.2.2.2.2.1
theorem aw_Z.moved {G : aw_G} {A : Nat → Prop} {u U : State} {H : Heap} (hvm : u.vm.Alike U.vm) (h : aw_Z G A u H) : aw_Z G A U H := ⟨va_En.moved hvm h.1, vx_Zq.moved hvm h.2.1, vx_Zq.moved hvm h.2.2.1, va_X.moved hvm h.2.2.2.1, h.2.2.2.2⟩
theorem aw_Z.kept {G : aw_G} {A : Nat → Prop} {U : State} {H H1 : Heap} (h : aw_Z G A U H) (hz : H.size ≤ H1.size) (hq : ∀ a : Nat, a < H.size → ¬ A a → H1[a]? = H[a]?) : aw_Z G A U H1 := ⟨h.1.kept hq, h.2.1.kept hq, h.2.2.1.kept hq, h.2.2.2.1.kept (hq _ h.2.2.2.2.1 h.2.2.2.2.2), Nat.lt_of_lt_of_le h.2.2.2.2.1 hz, h.2.2.2.2.2⟩
theorem aw_Z.narrow {G : aw_G} {A B : Nat → Prop} {U : State} {H : Heap} (h : aw_Z G A U H) (hAB : ∀ q, B q → A q) : aw_Z G B U H := ⟨h.1.narrow hAB, h.2.1.narrow hAB, h.2.2.1.narrow hAB, h.2.2.2.1, h.2.2.2.2.1, fun z => h.2.2.2.2.2 (hAB _ z)⟩
/-- locals: place by place -/
def aw_ps : Nat → List (Option Value) → List (Nat × Value)
  | _, [] => []
  | i, none :: t => aw_ps (i + 1) t
  | i, some v :: t => (i, v) :: aw_ps (i + 1) t
theorem aw_ps_mem {q : Nat × Value} : ∀ (L : List (Option Value)) (i : Nat), q ∈ aw_ps i L ↔ ∃ j : Nat, L[j]? = some (some q.2) ∧ q.1 = i + j
  | [], i => by simp [aw_ps]
  | none :: t, i => by
    rw [aw_ps, aw_ps_mem t (i + 1)]
    constructor
    · rintro ⟨j, h1, h2⟩
      exact ⟨j + 1, by simpa using h1, by omega⟩
    · rintro ⟨j, h1, h2⟩
      cases j with
      | zero => simp at h1
      | succ j => exact ⟨j, by simpa using h1, by omega⟩
  | some v :: t, i => by
    rw [aw_ps, List.mem_cons, aw_ps_mem t (i + 1)]
    constructor
    · rintro (h | ⟨j, h1, h2⟩)
      · exact ⟨0, by rw [h]; rfl, by simp [h]⟩
      · exact ⟨j + 1, by simpa using h1, by omega⟩
    · rintro ⟨j, h1, h2⟩
      cases j with
      | zero =>
        left
        simp at h1
        obtain ⟨a, b⟩ := q
        simp at h2
        simp at h1
        rw [h1, h2]
      | succ j => exact Or.inr ⟨j, by simpa using h1, by omega⟩
def aw_L (ls : Array Slot) (n : Nat) (L : List (Option Value)) : Prop := lv_has ls n (aw_ps 0 L)
theorem aw_L.at {ls : Array Slot} {n i : Nat} {L : List (Option Value)} {v : Value} (h : aw_L ls n L) (hi : L[i]? = some (some v)) : ls[i]? = some (.val v) :=
  h.2.2 (i, v) ((aw_ps_mem L 0).mpr ⟨i, hi, by simp⟩)
/-- no long lies on the place before -/
def aw_ok1 (L : List (Option Value)) : Nat → Bool
  | 0 => true
  | i + 1 => match L[i]? with
    | some (some v) => v.category == 1
    | _ => true
theorem aw_L.set1 {ls ls' : Array Slot} {n i : Nat} {L : List (Option Value)} {v : Value} (ho : aw_ok1 L i = true) (h : lv_has ls' n ((i, v) :: (aw_ps 0 L).filter (fun q => !(q.1 == i) && !(q.1 + 1 == i && q.2.category == 2)))) : aw_L ls' n (L.set i (some v)) := by
  refine ⟨h.1, h.2.1, fun q hq => ?_⟩
  obtain ⟨j, hj, hq1⟩ := (aw_ps_mem _ 0).mp hq
  have hq0 : q.1 = j := by omega
  by_cases hji : j = i
  · subst hji
    have hlt : j < L.length := by
      have := (List.getElem?_eq_some_iff.mp hj).1
      simpa using this
    rw [List.getElem?_set_self hlt] at hj
    cases hj
    exact h.2.2 q (by rw [show q = (j, q.2) from Prod.ext hq0 rfl]; exact List.mem_cons_self)
  · rw [List.getElem?_set_ne (Ne.symm hji)] at hj
    refine h.2.2 q (List.mem_cons_of_mem _ (List.mem_filter.mpr ⟨(aw_ps_mem L 0).mpr ⟨j, hj, hq1⟩, ?_⟩))
    have h2 : ¬ (q.1 + 1 = i ∧ q.2.category = 2) := by
      rintro ⟨e1, e2⟩
      rw [hq0] at e1
      subst e1
      simp [aw_ok1, hj, e2] at ho
    simp only [Bool.and_eq_true, Bool.not_eq_true', beq_eq_false_iff_ne, Bool.and_eq_false_iff]
    refine ⟨by rw [hq0]; exact hji, ?_⟩
    by_cases e1 : q.1 + 1 = i
    · exact Or.inr (fun e2 => h2 ⟨e1, e2⟩)
    · exact Or.inl e1
theorem aw_L.set2 {ls ls' : Array Slot} {n i : Nat} {L : List (Option Value)} {v : Value} (ho : aw_ok1 L i = true) (h : lv_has ls' n ((i, v) :: (aw_ps 0 L).filter (fun q => !(q.1 == i) && (!(q.1 == i + 1) && !(q.1 + 1 == i && q.2.category == 2))))) : aw_L ls' n ((L.set i (some v)).set (i + 1) none) := by
  refine ⟨h.1, h.2.1, fun q hq => ?_⟩
  obtain ⟨j, hj, hq1⟩ := (aw_ps_mem _ 0).mp hq
  have hq0 : q.1 = j := by omega
  by_cases hj1 : j = i + 1
  · subst hj1
    by_cases hlt : i + 1 < L.length
    · rw [List.getElem?_set_self (by simpa using hlt)] at hj
      cases hj
    · rw [List.getElem?_eq_none (by simp; omega)] at hj
      cases hj
  · rw [List.getElem?_set_ne (Ne.symm hj1)] at hj
    by_cases hji : j = i
    · subst hji
      have hlt : j < L.length := by
        have := (List.getElem?_eq_some_iff.mp hj).1
        simpa using this
      rw [List.getElem?_set_self hlt] at hj
      cases hj
      exact h.2.2 q (by rw [show q = (j, q.2) from Prod.ext hq0 rfl]; exact List.mem_cons_self)
    · rw [List.getElem?_set_ne (Ne.symm hji)] at hj
      refine h.2.2 q (List.mem_cons_of_mem _ (List.mem_filter.mpr ⟨(aw_ps_mem L 0).mpr ⟨j, hj, hq1⟩, ?_⟩))
      have h2 : ¬ (q.1 + 1 = i ∧ q.2.category = 2) := by
        rintro ⟨e1, e2⟩
        rw [hq0] at e1
        subst e1
        simp [aw_ok1, hj, e2] at ho
      simp only [Bool.and_eq_true, Bool.not_eq_true', beq_eq_false_iff_ne, Bool.and_eq_false_iff]
      refine ⟨by rw [hq0]; exact hji, by rw [hq0]; exact hj1, ?_⟩
      by_cases e1 : q.1 + 1 = i
      · exact Or.inr (fun e2 => h2 ⟨e1, e2⟩)
      · exact Or.inl e1
/-- the locals at a method's entry -/
def aw_ent : List Value → Nat → List (Option Value)
  | [], n => List.replicate n none
  | v :: t, n => if v.category = 2 then some v :: none :: aw_ent t (n - 2) else some v :: aw_ent t (n - 1)
theorem aw_ps_none (n : Nat) : ∀ i : Nat, aw_ps i (List.replicate n none) = [] := by
  induction n with
  | zero => intro i; rfl
  | succ n ih => intro i; rw [List.replicate_succ, aw_ps, ih]
theorem aw_ent_args (vs : List Value) : ∀ (n i : Nat), aw_ps i (aw_ent vs n) = lv_args i vs := by
  induction vs with
  | nil => intro n i; rw [aw_ent, aw_ps_none]; rfl
  | cons v t ih =>
    intro n i
    by_cases h : v.category = 2
    · rw [aw_ent, if_pos h, aw_ps, aw_ps, ih, lv_args, if_pos h]
    · rw [aw_ent, if_neg h, aw_ps, ih, lv_args, if_neg h]
def aw_fr (d : Nat) : Nat := d + 10
def aw_lo (d : Nat) : Nat := 64 * d + 160
def aw_C (G : aw_G) (M : aw_M) (p : Program) (s : State) (m : MethodId) (args : Array Value) (meth : Method) (c : Code) (A : Nat → Prop) : Prop :=
  p.tables.exec = Jvm.exec ∧ c.code = M.2.1 ∧ c.maxLocals = M.2.2.1 ∧ meth.sig.returnType = M.2.2.2.1 ∧ meth.locks = false ∧ s.vm.findClass M.1.cls = some m.cls ∧ meth.name = M.1.name ∧ c.exceptionTable.toList = tableOf M.2.2.2.2 ∧ (∀ w ∈ aw_TB, w.before args s = true) ∧ aw_T G s ∧ aw_Z G A s s.heap ∧ (∀ q : Nat, s.heap.size ≤ q → A q) ∧ G.1.stackTraces = false
def aw_Qc (G : aw_G) (Q : aw_O → aw_J → Prop) (A : Nat → Prop) : Array Value → State → Outcome → State → Prop := fun _ st oc t => ∃ (v : Option Value) (J : aw_J), oc = .returned v ∧ Q (.inl v) J ∧ aw_R G A J t.heap ∧ va_F A st t
def aw_XC (G : aw_G) (Q : aw_O → aw_J → Prop) (A : Nat → Prop) : String → State → State → Prop := fun E st t => ∃ J : aw_J, Q (.inr E) J ∧ aw_R G A J t.heap ∧ va_F A st t
/-- everything that a walk has at hand -/
def aw_I (G : aw_G) (M : aw_M) (d : Nat) (L : List (Option Value)) (J : aw_J) (kc ks : Nat) (p : Program) (R : Room) (s : State) (m : MethodId) (args : Array Value) (meth : Method) (c : Code) (H : Heap) (ls : Array Slot) (locs : List Loc) (cells slots mc ms : Nat) (A : Nat → Prop) : Prop :=
  aw_C G M p s m args meth c A ∧ (aw_fr d ≤ R.frames ∧ aw_lo d ≤ R.locals ∧ cells + kc ≤ mc ∧ mc ≤ R.cells ∧ slots + ks ≤ ms ∧ ms ≤ R.slots) ∧ aw_L ls M.2.2.1 L ∧ aw_R G A J H ∧ va_S A s.heap H locs
/-- THE JUDGEMENT: from pc, with the locals L, the stack st, the heap J, room for d calls, kc cells and ks slots, the method M comes to an end with Q -/
def aw_W (G : aw_G) (M : aw_M) (d : Nat) (Q : aw_O → aw_J → Prop) (pc : Nat) (L : List (Option Value)) (st : List Value) (J : aw_J) (kc ks : Nat) : Prop :=
  ∀ (p : Program) (e : Env) (R : Room) (s : State) (m : MethodId) (args : Array Value) (below : List Frame) (meth : Method) (c : Code) (H : Heap) (ls : Array Slot) (locs : List Loc) (cells slots mc ms : Nat) (A : Nat → Prop),
    aw_I G M d L J kc ks p R s m args meth c H ls locs cells slots mc ms A → W p G.1 e R s m args below meth c H locs cells slots (vx_MQ below (aw_Qc G Q A) (aw_XC G Q A) args s mc ms A) (F0 m pc ls st)
section AW
variable {G : aw_G} {M : aw_M} {d : Nat} {Q : aw_O → aw_J → Prop} {pc : Nat} {L : List (Option Value)} {st : List Value} {J : aw_J} {kc ks : Nat}
theorem aw_more {d0 kc0 ks0 : Nat} (hd : d0 ≤ d) (hc : kc0 ≤ kc) (hs : ks0 ≤ ks) (k : aw_W G M d0 Q pc L st J kc0 ks0) : aw_W G M d Q pc L st J kc ks := fun p e R s m args below meth c H ls locs cells slots mc ms A h =>
  k p e R s m args below meth c H ls locs cells slots mc ms A ⟨h.1, ⟨by have := h.2.1.1; unfold aw_fr at *; omega, by have := h.2.1.2.1; unfold aw_lo at *; omega, by have := h.2.1.2.2.1; omega, h.2.1.2.2.2.1, by have := h.2.1.2.2.2.2.1; omega, h.2.1.2.2.2.2.2⟩, h.2.2⟩
theorem aw_cons {Q0 : aw_O → aw_J → Prop} (hQ : ∀ o J, Q0 o J → Q o J) (k : aw_W G M d Q0 pc L st J kc ks) : aw_W G M d Q pc L st J kc ks := by
  intro p e R s m args below meth c H ls locs cells slots mc ms A h T hT X
  obtain ⟨t, a1, oc, b1, b2, b3⟩ := k p e R s m args below meth c H ls locs cells slots mc ms A h T hT X
  refine ⟨t, a1, oc, b1, b2, ?_⟩
  rcases b3 with ⟨⟨v, J', e1, e2, e3, e4⟩, hF⟩ | ⟨q, e0, E, ce, Lo, ⟨J', e2, e3, e4⟩, hr⟩
  · exact Or.inl ⟨⟨v, J', e1, hQ _ _ e2, e3, e4⟩, hF⟩
  · exact Or.inr ⟨q, e0, E, ce, Lo, ⟨J', hQ _ _ e2, e3, e4⟩, hr⟩
theorem aw_iconst {n : Int} {v : Int32} (hd : decode M.2.1 pc = .ok (.iconst n, 1)) (hv : Int32.ofInt n = v) (k : aw_W G M d Q (pc + 1) L (.int v :: st) J kc ks) : aw_W G M d Q pc L st J kc ks := fun p e R s m args below meth c H ls locs cells slots mc ms A h => lv_iconst h.1.1 h.1.2.1 hd hv (k p e R s m args below meth c H ls locs cells slots mc ms A h)
theorem aw_bipush {n : Int} {v : Int32} (hd : decode M.2.1 pc = .ok (.bipush n, 2)) (hv : (Int8.ofInt n).toInt32 = v) (k : aw_W G M d Q (pc + 2) L (.int v :: st) J kc ks) : aw_W G M d Q pc L st J kc ks := fun p e R s m args below meth c H ls locs cells slots mc ms A h => lv_bipush h.1.1 h.1.2.1 hd hv (k p e R s m args below meth c H ls locs cells slots mc ms A h)
theorem aw_sipush {n : Int} {v : Int32} (hd : decode M.2.1 pc = .ok (.sipush n, 3)) (hv : (Int16.ofInt n).toInt32 = v) (k : aw_W G M d Q (pc + 3) L (.int v :: st) J kc ks) : aw_W G M d Q pc L st J kc ks := fun p e R s m args below meth c H ls locs cells slots mc ms A h => lv_sipush h.1.1 h.1.2.1 hd hv (k p e R s m args below meth c H ls locs cells slots mc ms A h)
theorem aw_lconst {n : Fin 2} {v : Int64} (hd : decode M.2.1 pc = .ok (.lconst n, 1)) (hv : Int64.ofNat (n : Nat) = v) (k : aw_W G M d Q (pc + 1) L (.long v :: st) J kc ks) : aw_W G M d Q pc L st J kc ks := fun p e R s m args below meth c H ls locs cells slots mc ms A h => lv_lconst h.1.1 h.1.2.1 hd hv (k p e R s m args below meth c H ls locs cells slots mc ms A h)
theorem aw_null  (hd : decode M.2.1 pc = .ok (.aconst_null, 1)) (k : aw_W G M d Q (pc + 1) L (.null :: st) J kc ks) : aw_W G M d Q pc L st J kc ks := fun p e R s m args below meth c H ls locs cells slots mc ms A h => lv_null h.1.1 h.1.2.1 hd (k p e R s m args below meth c H ls locs cells slots mc ms A h)
theorem aw_ldc {idx : Nat} {v : Int32} (hd : decode M.2.1 pc = .ok (.ldc idx, 2)) (hw : Cond.constant M.1.cls idx v ∈ aw_TB) (k : aw_W G M d Q (pc + 2) L (.int v :: st) J kc ks) : aw_W G M d Q pc L st J kc ks := fun p e R s m args below meth c H ls locs cells slots mc ms A h => lv_ldc h.1.1 h.1.2.1 h.1.2.2.2.2.2.1 (h.1.2.2.2.2.2.2.2.2.1 _ hw) hd (k p e R s m args below meth c H ls locs cells slots mc ms A h)
theorem aw_ldc2 {idx : Nat} {v : Int64} (hd : decode M.2.1 pc = .ok (.ldc2_w idx, 3)) (hw : Cond.constantLong M.1.cls idx v ∈ aw_TB) (k : aw_W G M d Q (pc + 3) L (.long v :: st) J kc ks) : aw_W G M d Q pc L st J kc ks := fun p e R s m args below meth c H ls locs cells slots mc ms A h => lv_ldc2 h.1.1 h.1.2.1 h.1.2.2.2.2.2.1 (h.1.2.2.2.2.2.2.2.2.1 _ hw) hd (k p e R s m args below meth c H ls locs cells slots mc ms A h)
theorem aw_iadd {x y : Int32} (hd : decode M.2.1 pc = .ok (.iadd, 1)) (k : aw_W G M d Q (pc + 1) L (.int (x + y) :: st) J kc ks) : aw_W G M d Q pc L (.int y :: .int x :: st) J kc ks := fun p e R s m args below meth c H ls locs cells slots mc ms A h => lv_iadd h.1.1 h.1.2.1 hd (k p e R s m args below meth c H ls locs cells slots mc ms A h)
theorem aw_isub {x y : Int32} (hd : decode M.2.1 pc = .ok (.isub, 1)) (k : aw_W G M d Q (pc + 1) L (.int (x - y) :: st) J kc ks) : aw_W G M d Q pc L (.int y :: .int x :: st) J kc ks := fun p e R s m args below meth c H ls locs cells slots mc ms A h => lv_isub h.1.1 h.1.2.1 hd (k p e R s m args below meth c H ls locs cells slots mc ms A h)
theorem aw_imul {x y : Int32} (hd : decode M.2.1 pc = .ok (.imul, 1)) (k : aw_W G M d Q (pc + 1) L (.int (x * y) :: st) J kc ks) : aw_W G M d Q pc L (.int y :: .int x :: st) J kc ks := fun p e R s m args below meth c H ls locs cells slots mc ms A h => lv_imul h.1.1 h.1.2.1 hd (k p e R s m args below meth c H ls locs cells slots mc ms A h)
theorem aw_iand {x y : Int32} (hd : decode M.2.1 pc = .ok (.iand, 1)) (k : aw_W G M d Q (pc + 1) L (.int (x &&& y) :: st) J kc ks) : aw_W G M d Q pc L (.int y :: .int x :: st) J kc ks := fun p e R s m args below meth c H ls locs cells slots mc ms A h => lv_iand h.1.1 h.1.2.1 hd (k p e R s m args below meth c H ls locs cells slots mc ms A h)
theorem aw_ior {x y : Int32} (hd : decode M.2.1 pc = .ok (.ior, 1)) (k : aw_W G M d Q (pc + 1) L (.int (x ||| y) :: st) J kc ks) : aw_W G M d Q pc L (.int y :: .int x :: st) J kc ks := fun p e R s m args below meth c H ls locs cells slots mc ms A h => lv_ior h.1.1 h.1.2.1 hd (k p e R s m args below meth c H ls locs cells slots mc ms A h)
theorem aw_ixor {x y : Int32} (hd : decode M.2.1 pc = .ok (.ixor, 1)) (k : aw_W G M d Q (pc + 1) L (.int (x ^^^ y) :: st) J kc ks) : aw_W G M d Q pc L (.int y :: .int x :: st) J kc ks := fun p e R s m args below meth c H ls locs cells slots mc ms A h => lv_ixor h.1.1 h.1.2.1 hd (k p e R s m args below meth c H ls locs cells slots mc ms A h)
theorem aw_ishl {x y : Int32} (hd : decode M.2.1 pc = .ok (.ishl, 1)) (k : aw_W G M d Q (pc + 1) L (.int (x <<< (y &&& 31)) :: st) J kc ks) : aw_W G M d Q pc L (.int y :: .int x :: st) J kc ks := fun p e R s m args below meth c H ls locs cells slots mc ms A h => lv_ishl h.1.1 h.1.2.1 hd (k p e R s m args below meth c H ls locs cells slots mc ms A h)
theorem aw_ishr {x y : Int32} (hd : decode M.2.1 pc = .ok (.ishr, 1)) (k : aw_W G M d Q (pc + 1) L (.int (x >>> (y &&& 31)) :: st) J kc ks) : aw_W G M d Q pc L (.int y :: .int x :: st) J kc ks := fun p e R s m args below meth c H ls locs cells slots mc ms A h => lv_ishr h.1.1 h.1.2.1 hd (k p e R s m args below meth c H ls locs cells slots mc ms A h)
theorem aw_iushr {x y : Int32} (hd : decode M.2.1 pc = .ok (.iushr, 1)) (k : aw_W G M d Q (pc + 1) L (.int ((x.toUInt32 >>> (y.toUInt32 &&& Int32.toUInt32 31)).toInt32) :: st) J kc ks) : aw_W G M d Q pc L (.int y :: .int x :: st) J kc ks := fun p e R s m args below meth c H ls locs cells slots mc ms A h => lv_iushr h.1.1 h.1.2.1 hd rfl (k p e R s m args below meth c H ls locs cells slots mc ms A h)
theorem aw_ladd {x y : Int64} (hd : decode M.2.1 pc = .ok (.ladd, 1)) (k : aw_W G M d Q (pc + 1) L (.long (x + y) :: st) J kc ks) : aw_W G M d Q pc L (.long y :: .long x :: st) J kc ks := fun p e R s m args below meth c H ls locs cells slots mc ms A h => lv_ladd h.1.1 h.1.2.1 hd (k p e R s m args below meth c H ls locs cells slots mc ms A h)
theorem aw_land {x y : Int64} (hd : decode M.2.1 pc = .ok (.land, 1)) (k : aw_W G M d Q (pc + 1) L (.long (x &&& y) :: st) J kc ks) : aw_W G M d Q pc L (.long y :: .long x :: st) J kc ks := fun p e R s m args below meth c H ls locs cells slots mc ms A h => lv_land h.1.1 h.1.2.1 hd (k p e R s m args below meth c H ls locs cells slots mc ms A h)
theorem aw_lor {x y : Int64} (hd : decode M.2.1 pc = .ok (.lor, 1)) (k : aw_W G M d Q (pc + 1) L (.long (x ||| y) :: st) J kc ks) : aw_W G M d Q pc L (.long y :: .long x :: st) J kc ks := fun p e R s m args below meth c H ls locs cells slots mc ms A h => lv_lor h.1.1 h.1.2.1 hd (k p e R s m args below meth c H ls locs cells slots mc ms A h)
theorem aw_lushr {x : Int64} {y : Int32} (hd : decode M.2.1 pc = .ok (.lushr, 1)) (k : aw_W G M d Q (pc + 1) L (.long ((x.toUInt64 >>> (y.toInt64.toUInt64 &&& Int64.toUInt64 63)).toInt64) :: st) J kc ks) : aw_W G M d Q pc L (.int y :: .long x :: st) J kc ks := fun p e R s m args below meth c H ls locs cells slots mc ms A h => lv_lushr h.1.1 h.1.2.1 hd rfl (k p e R s m args below meth c H ls locs cells slots mc ms A h)
theorem aw_lshr {x : Int64} {y : Int32} (hd : decode M.2.1 pc = .ok (.lshr, 1)) (k : aw_W G M d Q (pc + 1) L (.long (x >>> (y.toInt64 &&& 63)) :: st) J kc ks) : aw_W G M d Q pc L (.int y :: .long x :: st) J kc ks := fun p e R s m args below meth c H ls locs cells slots mc ms A h => lv_lshr h.1.1 h.1.2.1 hd rfl (k p e R s m args below meth c H ls locs cells slots mc ms A h)
theorem aw_lshl {x : Int64} {y : Int32} (hd : decode M.2.1 pc = .ok (.lshl, 1)) (k : aw_W G M d Q (pc + 1) L (.long (x <<< (y.toInt64 &&& 63)) :: st) J kc ks) : aw_W G M d Q pc L (.int y :: .long x :: st) J kc ks := fun p e R s m args below meth c H ls locs cells slots mc ms A h => lv_lshl h.1.1 h.1.2.1 hd rfl (k p e R s m args below meth c H ls locs cells slots mc ms A h)
theorem aw_i2l {x : Int32} (hd : decode M.2.1 pc = .ok (.i2l, 1)) (k : aw_W G M d Q (pc + 1) L (.long x.toInt64 :: st) J kc ks) : aw_W G M d Q pc L (.int x :: st) J kc ks := fun p e R s m args below meth c H ls locs cells slots mc ms A h => lv_i2l h.1.1 h.1.2.1 hd rfl (k p e R s m args below meth c H ls locs cells slots mc ms A h)
theorem aw_l2i {x : Int64} (hd : decode M.2.1 pc = .ok (.l2i, 1)) (k : aw_W G M d Q (pc + 1) L (.int x.toInt32 :: st) J kc ks) : aw_W G M d Q pc L (.long x :: st) J kc ks := fun p e R s m args below meth c H ls locs cells slots mc ms A h => lv_l2i h.1.1 h.1.2.1 hd rfl (k p e R s m args below meth c H ls locs cells slots mc ms A h)
theorem aw_lcmp {x y : Int64} (hd : decode M.2.1 pc = .ok (.lcmp, 1)) (k : aw_W G M d Q (pc + 1) L (.int (lg_cmp x y) :: st) J kc ks) : aw_W G M d Q pc L (.long y :: .long x :: st) J kc ks := fun p e R s m args below meth c H ls locs cells slots mc ms A h => W.lcmp h.1.1 h.1.2.1 hd (k p e R s m args below meth c H ls locs cells slots mc ms A h)
theorem aw_dup {v : Value} (hd : decode M.2.1 pc = .ok (.dup, 1)) (hv : v.category = 1) (k : aw_W G M d Q (pc + 1) L (v :: v :: st) J kc ks) : aw_W G M d Q pc L (v :: st) J kc ks := fun p e R s m args below meth c H ls locs cells slots mc ms A h => lv_dup h.1.1 h.1.2.1 hd hv (k p e R s m args below meth c H ls locs cells slots mc ms A h)
theorem aw_pop {v : Value} (hd : decode M.2.1 pc = .ok (.pop, 1)) (hv : v.category = 1) (k : aw_W G M d Q (pc + 1) L st J kc ks) : aw_W G M d Q pc L (v :: st) J kc ks := fun p e R s m args below meth c H ls locs cells slots mc ms A h => lv_pop h.1.1 h.1.2.1 hd hv (k p e R s m args below meth c H ls locs cells slots mc ms A h)
theorem aw_dup_x1 {v w : Value} (hd : decode M.2.1 pc = .ok (.dup_x1, 1)) (hv : v.category = 1) (hw : w.category = 1) (k : aw_W G M d Q (pc + 1) L (v :: w :: v :: st) J kc ks) : aw_W G M d Q pc L (v :: w :: st) J kc ks := fun p e R s m args below meth c H ls locs cells slots mc ms A h => lv_dup_x1 h.1.1 h.1.2.1 hd hv hw (k p e R s m args below meth c H ls locs cells slots mc ms A h)
theorem aw_dup2 {v w : Value} (hd : decode M.2.1 pc = .ok (.dup2, 1)) (hv : v.category = 1) (hw : w.category = 1) (k : aw_W G M d Q (pc + 1) L (v :: w :: v :: w :: st) J kc ks) : aw_W G M d Q pc L (v :: w :: st) J kc ks := fun p e R s m args below meth c H ls locs cells slots mc ms A h => lv_dup2_11 h.1.1 h.1.2.1 hd hv hw (k p e R s m args below meth c H ls locs cells slots mc ms A h)
theorem aw_iload {i : Nat} {x : Int32} (hd : decode M.2.1 pc = .ok (.iload i, 2)) (hl : L[i]? = some (some (.int x))) (k : aw_W G M d Q (pc + 2) L (.int x :: st) J kc ks) : aw_W G M d Q pc L st J kc ks := fun p e R s m args below meth c H ls locs cells slots mc ms A h => lv_iload h.1.1 h.1.2.1 hd (h.2.2.1.at hl) (k p e R s m args below meth c H ls locs cells slots mc ms A h)
theorem aw_iload_n {n : Fin 4} {x : Int32} (hd : decode M.2.1 pc = .ok (.iload_n n, 1)) (hl : L[(n : Nat)]? = some (some (.int x))) (k : aw_W G M d Q (pc + 1) L (.int x :: st) J kc ks) : aw_W G M d Q pc L st J kc ks := fun p e R s m args below meth c H ls locs cells slots mc ms A h => lv_iload_n h.1.1 h.1.2.1 hd rfl (h.2.2.1.at hl) (k p e R s m args below meth c H ls locs cells slots mc ms A h)
theorem aw_lload {i : Nat} {x : Int64} (hd : decode M.2.1 pc = .ok (.lload i, 2)) (hl : L[i]? = some (some (.long x))) (k : aw_W G M d Q (pc + 2) L (.long x :: st) J kc ks) : aw_W G M d Q pc L st J kc ks := fun p e R s m args below meth c H ls locs cells slots mc ms A h => lv_lload h.1.1 h.1.2.1 hd (h.2.2.1.at hl) (k p e R s m args below meth c H ls locs cells slots mc ms A h)
theorem aw_lload_n {n : Fin 4} {x : Int64} (hd : decode M.2.1 pc = .ok (.lload_n n, 1)) (hl : L[(n : Nat)]? = some (some (.long x))) (k : aw_W G M d Q (pc + 1) L (.long x :: st) J kc ks) : aw_W G M d Q pc L st J kc ks := fun p e R s m args below meth c H ls locs cells slots mc ms A h => lv_lload_n h.1.1 h.1.2.1 hd rfl (h.2.2.1.at hl) (k p e R s m args below meth c H ls locs cells slots mc ms A h)
theorem aw_aload {i : Nat} {x : Nat} (hd : decode M.2.1 pc = .ok (.aload i, 2)) (hl : L[i]? = some (some (.ref x))) (k : aw_W G M d Q (pc + 2) L (.ref x :: st) J kc ks) : aw_W G M d Q pc L st J kc ks := fun p e R s m args below meth c H ls locs cells slots mc ms A h => lv_aload h.1.1 h.1.2.1 hd (h.2.2.1.at hl) (k p e R s m args below meth c H ls locs cells slots mc ms A h)
theorem aw_aload_n {n : Fin 4} {x : Nat} (hd : decode M.2.1 pc = .ok (.aload_n n, 1)) (hl : L[(n : Nat)]? = some (some (.ref x))) (k : aw_W G M d Q (pc + 1) L (.ref x :: st) J kc ks) : aw_W G M d Q pc L st J kc ks := fun p e R s m args below meth c H ls locs cells slots mc ms A h => lv_aload_n h.1.1 h.1.2.1 hd rfl (h.2.2.1.at hl) (k p e R s m args below meth c H ls locs cells slots mc ms A h)
theorem aw_aloadN {i : Nat} (hd : decode M.2.1 pc = .ok (.aload i, 2)) (hl : L[i]? = some (some .null)) (k : aw_W G M d Q (pc + 2) L (.null :: st) J kc ks) : aw_W G M d Q pc L st J kc ks := fun p e R s m args below meth c H ls locs cells slots mc ms A h => lv_aloadN h.1.1 h.1.2.1 hd (h.2.2.1.at hl) (k p e R s m args below meth c H ls locs cells slots mc ms A h)
theorem aw_aload_nN {n : Fin 4} (hd : decode M.2.1 pc = .ok (.aload_n n, 1)) (hl : L[(n : Nat)]? = some (some .null)) (k : aw_W G M d Q (pc + 1) L (.null :: st) J kc ks) : aw_W G M d Q pc L st J kc ks := fun p e R s m args below meth c H ls locs cells slots mc ms A h => lv_aload_nN h.1.1 h.1.2.1 hd rfl (h.2.2.1.at hl) (k p e R s m args below meth c H ls locs cells slots mc ms A h)
theorem aw_aloadQ {i : Nat} {r : Option Nat} (hd : decode M.2.1 pc = .ok (.aload i, 2)) (hl : L[i]? = some (some (va_rf r))) (k : aw_W G M d Q (pc + 2) L (va_rf r :: st) J kc ks) : aw_W G M d Q pc L st J kc ks := by
  cases r with
  | none => exact aw_aloadN hd hl k
  | some x => exact aw_aload hd hl k
theorem aw_aload_nQ {n : Fin 4} {r : Option Nat} (hd : decode M.2.1 pc = .ok (.aload_n n, 1)) (hl : L[(n : Nat)]? = some (some (va_rf r))) (k : aw_W G M d Q (pc + 1) L (va_rf r :: st) J kc ks) : aw_W G M d Q pc L st J kc ks := by
  cases r with
  | none => exact aw_aload_nN hd hl k
  | some x => exact aw_aload_n hd hl k
theorem aw_istore {i : Nat} {x : Int32} (hd : decode M.2.1 pc = .ok (.istore i, 2)) (hn : i < M.2.2.1) (ho : aw_ok1 L i = true) (k : aw_W G M d Q (pc + 2) (L.set i (some (.int x))) st J kc ks) : aw_W G M d Q pc L (.int x :: st) J kc ks := fun p e R s m args below meth c H ls locs cells slots mc ms A h => lv_istore h.1.1 h.1.2.1 hd h.2.2.1 hn rfl (fun ls2 h2 => (k p e R s m args below meth c H ls2 locs cells slots mc ms A ⟨h.1, h.2.1, aw_L.set1 (ls := ls) ho h2, h.2.2.2⟩))
theorem aw_istore_n {n : Fin 4} {x : Int32} (hd : decode M.2.1 pc = .ok (.istore_n n, 1)) (hn : (n : Nat) < M.2.2.1) (ho : aw_ok1 L n = true) (k : aw_W G M d Q (pc + 1) (L.set n (some (.int x))) st J kc ks) : aw_W G M d Q pc L (.int x :: st) J kc ks := fun p e R s m args below meth c H ls locs cells slots mc ms A h => lv_istore_n h.1.1 h.1.2.1 hd rfl h.2.2.1 hn rfl (fun ls2 h2 => (k p e R s m args below meth c H ls2 locs cells slots mc ms A ⟨h.1, h.2.1, aw_L.set1 (ls := ls) ho h2, h.2.2.2⟩))
theorem aw_astore {i : Nat} {x : Nat} (hd : decode M.2.1 pc = .ok (.astore i, 2)) (hn : i < M.2.2.1) (ho : aw_ok1 L i = true) (k : aw_W G M d Q (pc + 2) (L.set i (some (.ref x))) st J kc ks) : aw_W G M d Q pc L (.ref x :: st) J kc ks := fun p e R s m args below meth c H ls locs cells slots mc ms A h => lv_astore h.1.1 h.1.2.1 hd h.2.2.1 hn rfl (fun ls2 h2 => (k p e R s m args below meth c H ls2 locs cells slots mc ms A ⟨h.1, h.2.1, aw_L.set1 (ls := ls) ho h2, h.2.2.2⟩))
theorem aw_astore_n {n : Fin 4} {x : Nat} (hd : decode M.2.1 pc = .ok (.astore_n n, 1)) (hn : (n : Nat) < M.2.2.1) (ho : aw_ok1 L n = true) (k : aw_W G M d Q (pc + 1) (L.set n (some (.ref x))) st J kc ks) : aw_W G M d Q pc L (.ref x :: st) J kc ks := fun p e R s m args below meth c H ls locs cells slots mc ms A h => lv_astore_n h.1.1 h.1.2.1 hd rfl h.2.2.1 hn rfl (fun ls2 h2 => (k p e R s m args below meth c H ls2 locs cells slots mc ms A ⟨h.1, h.2.1, aw_L.set1 (ls := ls) ho h2, h.2.2.2⟩))
theorem aw_astoreN {i : Nat} (hd : decode M.2.1 pc = .ok (.astore i, 2)) (hn : i < M.2.2.1) (ho : aw_ok1 L i = true) (k : aw_W G M d Q (pc + 2) (L.set i (some .null)) st J kc ks) : aw_W G M d Q pc L (.null :: st) J kc ks := fun p e R s m args below meth c H ls locs cells slots mc ms A h => lv_astoreN h.1.1 h.1.2.1 hd h.2.2.1 hn rfl (fun ls2 h2 => (k p e R s m args below meth c H ls2 locs cells slots mc ms A ⟨h.1, h.2.1, aw_L.set1 (ls := ls) ho h2, h.2.2.2⟩))
theorem aw_astore_nN {n : Fin 4} (hd : decode M.2.1 pc = .ok (.astore_n n, 1)) (hn : (n : Nat) < M.2.2.1) (ho : aw_ok1 L n = true) (k : aw_W G M d Q (pc + 1) (L.set n (some .null)) st J kc ks) : aw_W G M d Q pc L (.null :: st) J kc ks := fun p e R s m args below meth c H ls locs cells slots mc ms A h => lv_astore_nN h.1.1 h.1.2.1 hd rfl h.2.2.1 hn rfl (fun ls2 h2 => (k p e R s m args below meth c H ls2 locs cells slots mc ms A ⟨h.1, h.2.1, aw_L.set1 (ls := ls) ho h2, h.2.2.2⟩))
theorem aw_astoreQ {i : Nat} {r : Option Nat} (hd : decode M.2.1 pc = .ok (.astore i, 2)) (hn : i < M.2.2.1) (ho : aw_ok1 L i = true) (k : aw_W G M d Q (pc + 2) (L.set i (some (va_rf r))) st J kc ks) : aw_W G M d Q pc L (va_rf r :: st) J kc ks := by
  cases r with
  | none => exact aw_astoreN hd hn ho k
  | some x => exact aw_astore hd hn ho k
theorem aw_astore_nQ {n : Fin 4} {r : Option Nat} (hd : decode M.2.1 pc = .ok (.astore_n n, 1)) (hn : (n : Nat) < M.2.2.1) (ho : aw_ok1 L n = true) (k : aw_W G M d Q (pc + 1) (L.set n (some (va_rf r))) st J kc ks) : aw_W G M d Q pc L (va_rf r :: st) J kc ks := by
  cases r with
  | none => exact aw_astore_nN hd hn ho k
  | some x => exact aw_astore_n hd hn ho k
theorem aw_lstore {i : Nat} {x : Int64} (hd : decode M.2.1 pc = .ok (.lstore i, 2)) (hn : i + 1 < M.2.2.1) (ho : aw_ok1 L i = true) (k : aw_W G M d Q (pc + 2) ((L.set i (some (.long x))).set (i + 1) none) st J kc ks) : aw_W G M d Q pc L (.long x :: st) J kc ks := fun p e R s m args below meth c H ls locs cells slots mc ms A h => lv_lstore h.1.1 h.1.2.1 hd h.2.2.1 hn rfl (fun ls2 h2 => (k p e R s m args below meth c H ls2 locs cells slots mc ms A ⟨h.1, h.2.1, aw_L.set2 (ls := ls) ho h2, h.2.2.2⟩))
theorem aw_lstore_n {n : Fin 4} {x : Int64} (hd : decode M.2.1 pc = .ok (.lstore_n n, 1)) (hn : (n : Nat) + 1 < M.2.2.1) (ho : aw_ok1 L n = true) (k : aw_W G M d Q (pc + 1) ((L.set n (some (.long x))).set (n + 1) none) st J kc ks) : aw_W G M d Q pc L (.long x :: st) J kc ks := fun p e R s m args below meth c H ls locs cells slots mc ms A h => lv_lstore_n h.1.1 h.1.2.1 hd rfl h.2.2.1 hn rfl (fun ls2 h2 => (k p e R s m args below meth c H ls2 locs cells slots mc ms A ⟨h.1, h.2.1, aw_L.set2 (ls := ls) ho h2, h.2.2.2⟩))
theorem aw_iinc {i : Nat} {n : Int} {x : Int32} (hd : decode M.2.1 pc = .ok (.iinc i n, 3)) (hl : L[i]? = some (some (.int x))) (hn : i < M.2.2.1) (ho : aw_ok1 L i = true) (k : aw_W G M d Q (pc + 3) (L.set i (some (.int (x + Int32.ofInt n)))) st J kc ks) : aw_W G M d Q pc L st J kc ks := by
  intro p e R s m args below meth c H ls locs cells slots mc ms A h
  obtain ⟨j, hj⟩ := List.getElem?_of_mem ((aw_ps_mem (q := (i, Value.int x)) L 0).mpr ⟨i, hl, by simp⟩)
  exact lv_iinc h.1.1 h.1.2.1 hd h.2.2.1 hj rfl hn rfl (fun ls2 h2 => (k p e R s m args below meth c H ls2 locs cells slots mc ms A ⟨h.1, h.2.1, aw_L.set1 (ls := ls) ho h2, h.2.2.2⟩))
theorem aw_if_eq {x : Int32} {off : Int} {tgt : Nat} (hd : decode M.2.1 pc = .ok (.ifCond .eq off, 3)) (ht : (pc : Int) + off = (tgt : Int)) (kt : x = 0 → aw_W G M d Q tgt L st J kc ks) (kf : ¬ x = 0 → aw_W G M d Q (pc + 3) L st J kc ks) : aw_W G M d Q pc L (.int x :: st) J kc ks := fun p e R s m args below meth c H ls locs cells slots mc ms A h => lv_if_eq h.1.1 h.1.2.1 hd ht (fun z => kt z p e R s m args below meth c H ls locs cells slots mc ms A h) (fun z => kf z p e R s m args below meth c H ls locs cells slots mc ms A h)
theorem aw_icmp_eq {x y : Int32} {off : Int} {tgt : Nat} (hd : decode M.2.1 pc = .ok (.if_icmp .eq off, 3)) (ht : (pc : Int) + off = (tgt : Int)) (kt : x = y → aw_W G M d Q tgt L st J kc ks) (kf : ¬ x = y → aw_W G M d Q (pc + 3) L st J kc ks) : aw_W G M d Q pc L (.int y :: .int x :: st) J kc ks := fun p e R s m args below meth c H ls locs cells slots mc ms A h => lv_icmp_eq h.1.1 h.1.2.1 hd ht (fun z => kt z p e R s m args below meth c H ls locs cells slots mc ms A h) (fun z => kf z p e R s m args below meth c H ls locs cells slots mc ms A h)
theorem aw_if_ne {x : Int32} {off : Int} {tgt : Nat} (hd : decode M.2.1 pc = .ok (.ifCond .ne off, 3)) (ht : (pc : Int) + off = (tgt : Int)) (kt : ¬ x = 0 → aw_W G M d Q tgt L st J kc ks) (kf : x = 0 → aw_W G M d Q (pc + 3) L st J kc ks) : aw_W G M d Q pc L (.int x :: st) J kc ks := fun p e R s m args below meth c H ls locs cells slots mc ms A h => lv_if_ne h.1.1 h.1.2.1 hd ht (fun z => kt z p e R s m args below meth c H ls locs cells slots mc ms A h) (fun z => kf z p e R s m args below meth c H ls locs cells slots mc ms A h)
theorem aw_icmp_ne {x y : Int32} {off : Int} {tgt : Nat} (hd : decode M.2.1 pc = .ok (.if_icmp .ne off, 3)) (ht : (pc : Int) + off = (tgt : Int)) (kt : ¬ x = y → aw_W G M d Q tgt L st J kc ks) (kf : x = y → aw_W G M d Q (pc + 3) L st J kc ks) : aw_W G M d Q pc L (.int y :: .int x :: st) J kc ks := fun p e R s m args below meth c H ls locs cells slots mc ms A h => lv_icmp_ne h.1.1 h.1.2.1 hd ht (fun z => kt z p e R s m args below meth c H ls locs cells slots mc ms A h) (fun z => kf z p e R s m args below meth c H ls locs cells slots mc ms A h)
theorem aw_if_lt {x : Int32} {off : Int} {tgt : Nat} (hd : decode M.2.1 pc = .ok (.ifCond .lt off, 3)) (ht : (pc : Int) + off = (tgt : Int)) (kt : x < 0 → aw_W G M d Q tgt L st J kc ks) (kf : ¬ x < 0 → aw_W G M d Q (pc + 3) L st J kc ks) : aw_W G M d Q pc L (.int x :: st) J kc ks := fun p e R s m args below meth c H ls locs cells slots mc ms A h => lv_if_lt h.1.1 h.1.2.1 hd ht (fun z => kt z p e R s m args below meth c H ls locs cells slots mc ms A h) (fun z => kf z p e R s m args below meth c H ls locs cells slots mc ms A h)
theorem aw_icmp_lt {x y : Int32} {off : Int} {tgt : Nat} (hd : decode M.2.1 pc = .ok (.if_icmp .lt off, 3)) (ht : (pc : Int) + off = (tgt : Int)) (kt : x < y → aw_W G M d Q tgt L st J kc ks) (kf : ¬ x < y → aw_W G M d Q (pc + 3) L st J kc ks) : aw_W G M d Q pc L (.int y :: .int x :: st) J kc ks := fun p e R s m args below meth c H ls locs cells slots mc ms A h => lv_icmp_lt h.1.1 h.1.2.1 hd ht (fun z => kt z p e R s m args below meth c H ls locs cells slots mc ms A h) (fun z => kf z p e R s m args below meth c H ls locs cells slots mc ms A h)
theorem aw_if_ge {x : Int32} {off : Int} {tgt : Nat} (hd : decode M.2.1 pc = .ok (.ifCond .ge off, 3)) (ht : (pc : Int) + off = (tgt : Int)) (kt : 0 ≤ x → aw_W G M d Q tgt L st J kc ks) (kf : ¬ 0 ≤ x → aw_W G M d Q (pc + 3) L st J kc ks) : aw_W G M d Q pc L (.int x :: st) J kc ks := fun p e R s m args below meth c H ls locs cells slots mc ms A h => lv_if_ge h.1.1 h.1.2.1 hd ht (fun z => kt z p e R s m args below meth c H ls locs cells slots mc ms A h) (fun z => kf z p e R s m args below meth c H ls locs cells slots mc ms A h)
theorem aw_icmp_ge {x y : Int32} {off : Int} {tgt : Nat} (hd : decode M.2.1 pc = .ok (.if_icmp .ge off, 3)) (ht : (pc : Int) + off = (tgt : Int)) (kt : y ≤ x → aw_W G M d Q tgt L st J kc ks) (kf : ¬ y ≤ x → aw_W G M d Q (pc + 3) L st J kc ks) : aw_W G M d Q pc L (.int y :: .int x :: st) J kc ks := fun p e R s m args below meth c H ls locs cells slots mc ms A h => lv_icmp_ge h.1.1 h.1.2.1 hd ht (fun z => kt z p e R s m args below meth c H ls locs cells slots mc ms A h) (fun z => kf z p e R s m args below meth c H ls locs cells slots mc ms A h)
theorem aw_if_gt {x : Int32} {off : Int} {tgt : Nat} (hd : decode M.2.1 pc = .ok (.ifCond .gt off, 3)) (ht : (pc : Int) + off = (tgt : Int)) (kt : 0 < x → aw_W G M d Q tgt L st J kc ks) (kf : ¬ 0 < x → aw_W G M d Q (pc + 3) L st J kc ks) : aw_W G M d Q pc L (.int x :: st) J kc ks := fun p e R s m args below meth c H ls locs cells slots mc ms A h => lv_if_gt h.1.1 h.1.2.1 hd ht (fun z => kt z p e R s m args below meth c H ls locs cells slots mc ms A h) (fun z => kf z p e R s m args below meth c H ls locs cells slots mc ms A h)
theorem aw_icmp_gt {x y : Int32} {off : Int} {tgt : Nat} (hd : decode M.2.1 pc = .ok (.if_icmp .gt off, 3)) (ht : (pc : Int) + off = (tgt : Int)) (kt : y < x → aw_W G M d Q tgt L st J kc ks) (kf : ¬ y < x → aw_W G M d Q (pc + 3) L st J kc ks) : aw_W G M d Q pc L (.int y :: .int x :: st) J kc ks := fun p e R s m args below meth c H ls locs cells slots mc ms A h => lv_icmp_gt h.1.1 h.1.2.1 hd ht (fun z => kt z p e R s m args below meth c H ls locs cells slots mc ms A h) (fun z => kf z p e R s m args below meth c H ls locs cells slots mc ms A h)
theorem aw_if_le {x : Int32} {off : Int} {tgt : Nat} (hd : decode M.2.1 pc = .ok (.ifCond .le off, 3)) (ht : (pc : Int) + off = (tgt : Int)) (kt : x ≤ 0 → aw_W G M d Q tgt L st J kc ks) (kf : ¬ x ≤ 0 → aw_W G M d Q (pc + 3) L st J kc ks) : aw_W G M d Q pc L (.int x :: st) J kc ks := fun p e R s m args below meth c H ls locs cells slots mc ms A h => lv_if_le h.1.1 h.1.2.1 hd ht (fun z => kt z p e R s m args below meth c H ls locs cells slots mc ms A h) (fun z => kf z p e R s m args below meth c H ls locs cells slots mc ms A h)
theorem aw_icmp_le {x y : Int32} {off : Int} {tgt : Nat} (hd : decode M.2.1 pc = .ok (.if_icmp .le off, 3)) (ht : (pc : Int) + off = (tgt : Int)) (kt : x ≤ y → aw_W G M d Q tgt L st J kc ks) (kf : ¬ x ≤ y → aw_W G M d Q (pc + 3) L st J kc ks) : aw_W G M d Q pc L (.int y :: .int x :: st) J kc ks := fun p e R s m args below meth c H ls locs cells slots mc ms A h => lv_icmp_le h.1.1 h.1.2.1 hd ht (fun z => kt z p e R s m args below meth c H ls locs cells slots mc ms A h) (fun z => kf z p e R s m args below meth c H ls locs cells slots mc ms A h)
theorem aw_acmp_eq {x y : Option Nat} {off : Int} {tgt : Nat} (hd : decode M.2.1 pc = .ok (.if_acmp .eq off, 3)) (ht : (pc : Int) + off = (tgt : Int)) (kt : x = y → aw_W G M d Q tgt L st J kc ks) (kf : ¬ x = y → aw_W G M d Q (pc + 3) L st J kc ks) : aw_W G M d Q pc L (va_rf y :: va_rf x :: st) J kc ks := fun p e R s m args below meth c H ls locs cells slots mc ms A h => lv_acmp_eq h.1.1 h.1.2.1 hd ht (fun z => kt z p e R s m args below meth c H ls locs cells slots mc ms A h) (fun z => kf z p e R s m args below meth c H ls locs cells slots mc ms A h)
theorem aw_acmp_ne {x y : Option Nat} {off : Int} {tgt : Nat} (hd : decode M.2.1 pc = .ok (.if_acmp .ne off, 3)) (ht : (pc : Int) + off = (tgt : Int)) (kt : ¬ x = y → aw_W G M d Q tgt L st J kc ks) (kf : x = y → aw_W G M d Q (pc + 3) L st J kc ks) : aw_W G M d Q pc L (va_rf y :: va_rf x :: st) J kc ks := fun p e R s m args below meth c H ls locs cells slots mc ms A h => lv_acmp_ne h.1.1 h.1.2.1 hd ht (fun z => kt z p e R s m args below meth c H ls locs cells slots mc ms A h) (fun z => kf z p e R s m args below meth c H ls locs cells slots mc ms A h)
theorem aw_goto {off : Int} {tgt : Nat} (hd : decode M.2.1 pc = .ok (.goto off, 3)) (ht : (pc : Int) + off = (tgt : Int)) (k : aw_W G M d Q tgt L st J kc ks) : aw_W G M d Q pc L st J kc ks := fun p e R s m args below meth c H ls locs cells slots mc ms A h => lv_goto h.1.1 h.1.2.1 hd ht (k p e R s m args below meth c H ls locs cells slots mc ms A h)
theorem aw_ifnull {r : Option Nat} {off : Int} {tgt : Nat} (hd : decode M.2.1 pc = .ok (.ifnull off, 3)) (ht : (pc : Int) + off = (tgt : Int)) (kt : r = none → aw_W G M d Q tgt L st J kc ks) (kf : ¬ r = none → aw_W G M d Q (pc + 3) L st J kc ks) : aw_W G M d Q pc L (va_rf r :: st) J kc ks := by
  intro p e R s m args below meth c H ls locs cells slots mc ms A h
  cases r with
  | none => exact lv_ifnullN h.1.1 h.1.2.1 hd ht (kt rfl p e R s m args below meth c H ls locs cells slots mc ms A h)
  | some x => exact lv_ifnull h.1.1 h.1.2.1 hd (kf (by simp) p e R s m args below meth c H ls locs cells slots mc ms A h)
theorem aw_ifnonnull {r : Option Nat} {off : Int} {tgt : Nat} (hd : decode M.2.1 pc = .ok (.ifnonnull off, 3)) (ht : (pc : Int) + off = (tgt : Int)) (kt : ¬ r = none → aw_W G M d Q tgt L st J kc ks) (kf : r = none → aw_W G M d Q (pc + 3) L st J kc ks) : aw_W G M d Q pc L (va_rf r :: st) J kc ks := by
  intro p e R s m args below meth c H ls locs cells slots mc ms A h
  cases r with
  | none => exact lv_ifnonnullN h.1.1 h.1.2.1 hd (kf rfl p e R s m args below meth c H ls locs cells slots mc ms A h)
  | some x => exact lv_ifnonnull h.1.1 h.1.2.1 hd ht (kt (by simp) p e R s m args below meth c H ls locs cells slots mc ms A h)
theorem aw_tableIn {dflt lo hi : Int} {offs : Array Int} {len : Nat} {x : Int32} {off : Int} {tgt : Nat} (hd : decode M.2.1 pc = .ok (.tableswitch dflt lo hi offs, len)) (h1 : ¬ x.toInt < lo) (h2 : ¬ hi < x.toInt) (ho : offs[(x.toInt - lo).toNat]? = some off) (ht : (pc : Int) + off = (tgt : Int)) (k : aw_W G M d Q tgt L st J kc ks) : aw_W G M d Q pc L (.int x :: st) J kc ks := fun p e R s m args below meth c H ls locs cells slots mc ms A h => lv_tableIn h.1.1 h.1.2.1 hd h1 h2 ho ht (k p e R s m args below meth c H ls locs cells slots mc ms A h)
theorem aw_tableOut {dflt lo hi : Int} {offs : Array Int} {len : Nat} {x : Int32} {tgt : Nat} (hd : decode M.2.1 pc = .ok (.tableswitch dflt lo hi offs, len)) (h0 : x.toInt < lo ∨ hi < x.toInt) (ht : (pc : Int) + dflt = (tgt : Int)) (k : aw_W G M d Q tgt L st J kc ks) : aw_W G M d Q pc L (.int x :: st) J kc ks := fun p e R s m args below meth c H ls locs cells slots mc ms A h => lv_tableOut h.1.1 h.1.2.1 hd h0 ht (k p e R s m args below meth c H ls locs cells slots mc ms A h)
theorem aw_iret {v : Int32} (hd : decode M.2.1 pc = .ok (.ireturn, 1)) (hr : M.2.2.2.1 = some .int) (hq : Q (.inl (some (.int v))) J) : aw_W G M d Q pc L [.int v] J kc ks := by
  intro p e R s m args below meth c H ls locs cells slots mc ms A h
  have hq2 : ∀ t : State, t.heap = H → s.WarmedH t.vm → aw_Qc G Q A args s (.returned (some (.int v))) t := fun t ht _ => ⟨_, J, rfl, hq, by rw [ht]; exact h.2.2.2.1, h.2.2.2.2.F ht⟩
  refine W.widen (k := mc) (n := ms) (by have := h.2.1.2.2.1; omega) (by have := h.2.1.2.2.2.2.1; omega) (vx_ret ?_)
  exact W.iret h.1.1 h.1.2.1 (h.1.2.2.2.1.trans hr) hq2 h.2.2.2.2.2.2 hd h.1.2.2.2.2.1
theorem aw_zret {v : Int32} (hd : decode M.2.1 pc = .ok (.ireturn, 1)) (hr : M.2.2.2.1 = some .boolean) (hn : narrow .boolean (.int v) = .int v) (hq : Q (.inl (some (.int v))) J) : aw_W G M d Q pc L [.int v] J kc ks := by
  intro p e R s m args below meth c H ls locs cells slots mc ms A h
  have hq2 : ∀ t : State, t.heap = H → s.WarmedH t.vm → aw_Qc G Q A args s (.returned (some (.int v))) t := fun t ht _ => ⟨_, J, rfl, hq, by rw [ht]; exact h.2.2.2.1, h.2.2.2.2.F ht⟩
  refine W.widen (k := mc) (n := ms) (by have := h.2.1.2.2.1; omega) (by have := h.2.1.2.2.2.2.1; omega) (vx_ret ?_)
  exact W.zret h.1.1 h.1.2.1 (h.1.2.2.2.1.trans hr) hn hq2 h.2.2.2.2.2.2 hd h.1.2.2.2.2.1
theorem aw_vret  (hd : decode M.2.1 pc = .ok (.return_, 1)) (hr : M.2.2.2.1 = none) (hq : Q (.inl (none)) J) : aw_W G M d Q pc L [] J kc ks := by
  intro p e R s m args below meth c H ls locs cells slots mc ms A h
  have hq2 : ∀ t : State, t.heap = H → s.WarmedH t.vm → aw_Qc G Q A args s (.returned (none)) t := fun t ht _ => ⟨_, J, rfl, hq, by rw [ht]; exact h.2.2.2.1, h.2.2.2.2.F ht⟩
  refine W.widen (k := mc) (n := ms) (by have := h.2.1.2.2.1; omega) (by have := h.2.1.2.2.2.2.1; omega) (vx_ret ?_)
  exact W.vret h.1.1 h.1.2.1 (h.1.2.2.2.1.trans hr) hq2 h.2.2.2.2.2.2 hd h.1.2.2.2.2.1
theorem aw_aret {v : Value} {C : String} (hd : decode M.2.1 pc = .ok (.areturn, 1)) (hr : M.2.2.2.1 = some (.object C)) (hv : v = .null ∨ ∃ a : Nat, v = .ref a) (hq : Q (.inl (some v)) J) : aw_W G M d Q pc L [v] J kc ks := by
  intro p e R s m args below meth c H ls locs cells slots mc ms A h
  have hq2 : ∀ t : State, t.heap = H → s.WarmedH t.vm → aw_Qc G Q A args s (.returned (some v)) t := fun t ht _ => ⟨_, J, rfl, hq, by rw [ht]; exact h.2.2.2.1, h.2.2.2.2.F ht⟩
  refine W.widen (k := mc) (n := ms) (by have := h.2.1.2.2.1; omega) (by have := h.2.1.2.2.2.2.1; omega) (vx_ret ?_)
  exact W.aret h.1.1 h.1.2.1 (h.1.2.2.2.1.trans hr) (Or.inl ⟨_, rfl⟩) hv hq2 h.2.2.2.2.2.2 hd h.1.2.2.2.2.1
theorem aw_rf_or (r : Option Nat) : va_rf r = .null ∨ ∃ a : Nat, va_rf r = .ref a := by
  cases r with
  | none => exact Or.inl rfl
  | some a => exact Or.inr ⟨a, rfl⟩
end AW
